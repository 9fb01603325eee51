section Model3
variable {G : GT} {S : St}
theorem c_M_comes (a r : Int) (ha : -2147483648 ≤ a ∧ a < 2147483648) (hb : -2147483648 ≤ r ∧ r < 2147483648) (h : NR (S 22 0)) : Fn G k_M_comes [oR G 22, vI a, vI r] S (PI (fun z S1 => ∃ N1, ComeR (S 22 0) a r z N1 ∧ S1 = sR S 22 0 N1)) := by
  obtain ⟨hr, i0, i1, i2, i3, i4, i5, i6⟩ := id h

  have hc0 := cnt_0 (S 22 0) (S 22 0 5).toNat
  refine Fn.of [some (oR G 22), some (vI a), some (vI r)] 0 rfl (by decide +kernel) rfl (Nat.le_of_ble_eq_true rfl) (by decide) ?_
  refine Go_aload d_M_comes_0 lg0 ⟨_, rfl⟩ ?_
  refine Go_V0p d_M_comes_1 kM (c_M_isFull (by omega) (by omega)) (Nat.le_of_ble_eq_true rfl) ?_
  refine Go_ifne_d d_M_comes_4 (fun h4 => ?_) (fun h4 => ?_)
  · refine Go_const d_M_comes_16 ?_
    refine Go_iretI d_M_comes_18 ⟨S 22 0, Or.inl ⟨by unfold FullP; omega, rfl, rfl⟩, (sR_id _ _ _).symm⟩
  · refine Go_aload d_M_comes_7 lg0 ⟨_, rfl⟩ ?_
    refine Go_V0p d_M_comes_8 kM (c_M_standing (by omega) hr) (Nat.le_of_ble_eq_true rfl) ?_
    refine Go_const d_M_comes_11 ?_
    refine Go_icmp_lt d_M_comes_13 (by omega) (by omega) (fun h13 => ?_) (fun h13 => ?_)
    · refine Go_aload d_M_comes_19 lg0 ⟨_, rfl⟩ ?_
      refine Go_iload d_M_comes_20 lg1 ?_
      refine Go_iload d_M_comes_21 lg2 ?_
      refine Go_V2n d_M_comes_22 kM (c_M_adds _ _ (by omega)) (Nat.le_of_ble_eq_true rfl) ?_
      rintro S2 hS2
      have hN2 : S2 22 0 = addN (S 22 0) a r := by rw [hS2, sR_s]
      have k2 : NR (addN (S 22 0) a r) := h.add (by omega) ha hb
      obtain ⟨hr2, j0, j1, j2, j3, j4, j5, j6⟩ := id k2
      have e0 : addN (S 22 0) a r 0 = S 22 0 0 := addN_k i5.1 (by decide) (by decide)
      have e3 : addN (S 22 0) a r 3 = S 22 0 3 := addN_k i5.1 (by decide) (by decide)
      have e5 : addN (S 22 0) a r 5 = S 22 0 5 + 1 := addN_5 _ _ _
      have ec := addN_cnt (N := S 22 0) (s := a) (r := r) i5.1
      refine Go_aload d_M_comes_25 lg0 ⟨_, rfl⟩ ?_
      refine Go_aload d_M_comes_26 lg0 ⟨_, rfl⟩ ?_
      refine Go_get d_M_comes_27 fm_0 ?_
      refine Go_const d_M_comes_30 ?_
      refine Go_ialdC (k0 := 0) d_M_comes_31 am_0 rfl (by decide) ?_
      refine Go_const d_M_comes_32 ?_
      refine Go_aload d_M_comes_33 lg0 ⟨_, rfl⟩ ?_
      refine Go_V0p d_M_comes_34 kM (c_M_standing (by rw [hN2]; omega) (by rw [hN2]; exact hr2)) (Nat.le_of_ble_eq_true rfl) ?_
      rw [show vI 0 = vI (bI False) from rfl]
      refine Go_V3p d_M_comes_37 kM (c_M_begins _ _ False (by rw [hN2]; omega) (by rw [hN2, e5, ec]; omega) (by rw [hN2]; omega) (by rw [hN2]; omega)) (Nat.le_of_ble_eq_true rfl) ?_
      refine Go_ifeq_d d_M_comes_40 (fun h40 => ?_) (fun h40 => ?_)
      · refine Go_const d_M_comes_50 ?_
        rw [hN2, e5, ec, e0] at h40
        first
          | exact Go_iretI d_M_comes_51 ⟨_, Or.inr (Or.inl ⟨by unfold FullP; omega, h40, rfl, rfl⟩), hS2⟩
          | exact Go_iretI d_M_comes_51 ⟨_, Or.inr (Or.inr ⟨by unfold FullP; omega, h40, hz, rfl⟩), by rw [hS3, hS2, sR_sR]⟩
      · refine Go_aload d_M_comes_43 lg0 ⟨_, rfl⟩ ?_
        refine Go_V0i d_M_comes_44 kM (c_M_goesRound hN2 k2 (by omega) (by have := rnd_rg (T := False) k2 (by rw [hN2, e5, ec] at h40; rw [e5, ec]; exact h40) (by omega); omega)) (Nat.le_of_ble_eq_true rfl) ?_
        rintro z S3 ⟨hz, hS3⟩
        refine Go_goto d_M_comes_47 ?_
        rw [hN2, e5, ec, e0] at h40
        first
          | exact Go_iretI d_M_comes_51 ⟨_, Or.inr (Or.inl ⟨by unfold FullP; omega, h40, rfl, rfl⟩), hS2⟩
          | exact Go_iretI d_M_comes_51 ⟨_, Or.inr (Or.inr ⟨by unfold FullP; omega, h40, hz, rfl⟩), by rw [hS3, hS2, sR_sR]⟩
    · refine Go_const d_M_comes_16 ?_
      refine Go_iretI d_M_comes_18 ⟨S 22 0, Or.inl ⟨by unfold FullP; omega, rfl, rfl⟩, (sR_id _ _ _).symm⟩
theorem c_M_ticks (h : NR (S 22 0)) : Fn G k_M_ticks [oR G 22] S (PI (fun z S1 => ∃ N1, TickR (S 22 0) z N1 ∧ S1 = sR S 22 0 N1)) := by
  obtain ⟨hr, i0, i1, i2, i3, i4, i5, i6⟩ := id h

  have hc0 := cnt_0 (S 22 0) (S 22 0 5).toNat
  refine Fn.of [some (oR G 22)] 0 rfl (by decide +kernel) rfl (Nat.le_of_ble_eq_true rfl) (by decide) ?_
  refine Go_aload d_M_ticks_0 lg0 ⟨_, rfl⟩ ?_
  refine Go_V0p d_M_ticks_1 kM (c_M_isFull (by omega) (by omega)) (Nat.le_of_ble_eq_true rfl) ?_
  refine Go_ifeq_d d_M_ticks_4 (fun h4 => ?_) (fun h4 => ?_)
  · refine Go_aload d_M_ticks_10 lg0 ⟨_, rfl⟩ ?_
    refine Go_aload d_M_ticks_11 lg0 ⟨_, rfl⟩ ?_
    refine Go_get d_M_ticks_12 fm_0 ?_
    refine Go_const d_M_ticks_15 ?_
    refine Go_ialdC (k0 := 0) d_M_ticks_16 am_0 rfl (by decide) ?_
    refine Go_const d_M_ticks_17 ?_
    refine Go_aload d_M_ticks_18 lg0 ⟨_, rfl⟩ ?_
    refine Go_V0p d_M_ticks_19 kM (c_M_standing (by omega) hr) (Nat.le_of_ble_eq_true rfl) ?_
    rw [show vI 1 = vI (bI True) from rfl]
    refine Go_V3p d_M_ticks_22 kM (c_M_begins _ _ True (by omega) (by omega) (by omega) (by omega)) (Nat.le_of_ble_eq_true rfl) ?_
    refine Go_ifeq_d d_M_ticks_25 (fun h25 => ?_) (fun h25 => ?_)
    · refine Go_const d_M_ticks_35 ?_
      first
        | exact Go_iretI d_M_ticks_36 ⟨_, Or.inr (Or.inl ⟨h4, h25, rfl, rfl⟩), (sR_id _ _ _).symm⟩
        | exact Go_iretI d_M_ticks_36 ⟨_, Or.inr (Or.inr ⟨h4, h25, hz, rfl⟩), hS3⟩
    · refine Go_aload d_M_ticks_28 lg0 ⟨_, rfl⟩ ?_
      refine Go_V0i d_M_ticks_29 kM (c_M_goesRound rfl h (by omega) (by have := rnd_rg (T := True) h h25 (by omega); omega)) (Nat.le_of_ble_eq_true rfl) ?_
      rintro z S3 ⟨hz, hS3⟩
      refine Go_goto d_M_ticks_32 ?_
      first
        | exact Go_iretI d_M_ticks_36 ⟨_, Or.inr (Or.inl ⟨h4, h25, rfl, rfl⟩), (sR_id _ _ _).symm⟩
        | exact Go_iretI d_M_ticks_36 ⟨_, Or.inr (Or.inr ⟨h4, h25, hz, rfl⟩), hS3⟩
  · refine Go_const d_M_ticks_7 ?_
    exact Go_iretI d_M_ticks_9 ⟨S 22 0, Or.inl ⟨h4, rfl, rfl⟩, (sR_id _ _ _).symm⟩
theorem c_M_isSender (u : Int) (hu : -2147483648 ≤ u ∧ u < 2147483648) : Fn G k_M_isSender [vI u] S (PV (vI (bI ((0 ≤ u ∧ u ≤ 7) ∨ u = 9))) S) := by
  refine Fn.of [some (vI u)] 0 rfl (by decide +kernel) rfl (Nat.le_of_ble_eq_true rfl) (by decide) ?_
  refine Go_iload d_M_isSender_0 lg0 ?_
  refine Go_i2l d_M_isSender_1 (by omega) ?_
  refine Go_lconst d_M_isSender_2 ?_
  refine Go_lconst d_M_isSender_3 ?_
  refine Go_S3p d_M_isSender_6 (c_M_in _ _ _ (by omega) (by omega) (by omega)) (Nat.le_of_ble_eq_true rfl) ?_
  refine Go_ifne_d d_M_isSender_9 (fun h9 => ?_) (fun h9 => ?_)
  · refine Go_const d_M_isSender_18 ?_
    refine Go_goto d_M_isSender_19 ?_
    exact Go_zretV d_M_isSender_23 (by first | exact Or.inl rfl | exact Or.inr rfl | exact @bI_01 _ _) (by first | rfl | exact (bI_pos (by omega)).symm | exact (bI_neg (by omega)).symm)
  · refine Go_iload d_M_isSender_12 lg0 ?_
    refine Go_const d_M_isSender_13 ?_
    refine Go_icmp_ne d_M_isSender_15 (by omega) (by omega) (fun h15 => ?_) (fun h15 => ?_)
    · refine Go_const d_M_isSender_22 ?_
      exact Go_zretV d_M_isSender_23 (by first | exact Or.inl rfl | exact Or.inr rfl | exact @bI_01 _ _) (by first | rfl | exact (bI_pos (by omega)).symm | exact (bI_neg (by omega)).symm)
    · refine Go_const d_M_isSender_18 ?_
      refine Go_goto d_M_isSender_19 ?_
      exact Go_zretV d_M_isSender_23 (by first | exact Or.inl rfl | exact Or.inr rfl | exact @bI_01 _ _) (by first | rfl | exact (bI_pos (by omega)).symm | exact (bI_neg (by omega)).symm)
def comeOk (a r : Int) : Prop := ((0 ≤ a ∧ a ≤ 7) ∨ a = 9) ∧ 0 ≤ r ∧ r ≤ 7
theorem noteS_0 (S : St) : noteS S 22 0 = S 22 0 := by funext i; unfold noteS; rw [st3_j (by decide), sR_ji (by decide)]
theorem c_M_come (a r : Int) (ha : -2147483648 ≤ a ∧ a < 2147483648) (hb : -2147483648 ≤ r ∧ r < 2147483648) (h : NR (S 22 0)) (hu : 0 ≤ S 22 8 0 ∧ S 22 8 0 ≤ 6) : Fn G k_M_come [oR G 22, vI a, vI r] S (PI (fun z S1 => (¬ comeOk a r ∧ z = -1 ∧ S1 = S) ∨ (comeOk a r ∧ (FullP (S 22 0) ∨ 12 ≤ cnt (S 22 0) (S 22 0 5).toNat) ∧ z = -3 ∧ S1 = S) ∨ (comeOk a r ∧ ¬ (FullP (S 22 0) ∨ 12 ≤ cnt (S 22 0) (S 22 0 5).toNat) ∧ ∃ N1, ComeR (S 22 0) a r z N1 ∧ S1 = sR (noteS S) 22 0 N1))) := by
  obtain ⟨hr, i0, i1, i2, i3, i4, i5, i6⟩ := id h

  have hc0 := cnt_0 (S 22 0) (S 22 0 5).toNat
  refine Fn.of [some (oR G 22), some (vI a), some (vI r)] 0 rfl (by decide +kernel) rfl (Nat.le_of_ble_eq_true rfl) (by decide) ?_
  refine Go_iload d_M_come_0 lg1 ?_
  refine Go_S1p d_M_come_1 (c_M_isSender _ (by omega)) (Nat.le_of_ble_eq_true rfl) ?_
  refine Go_ifeq_d d_M_come_4 (fun h4 => ?_) (fun h4 => ?_)
  · refine Go_const d_M_come_19 ?_
    exact Go_iretI d_M_come_20 (Or.inl ⟨by unfold comeOk; omega, rfl, rfl⟩)
  · refine Go_iload d_M_come_7 lg2 ?_
    refine Go_i2l d_M_come_8 (by omega) ?_
    refine Go_lconst d_M_come_9 ?_
    refine Go_lconst d_M_come_10 ?_
    refine Go_S3p d_M_come_13 (c_M_in _ _ _ (by omega) (by omega) (by omega)) (Nat.le_of_ble_eq_true rfl) ?_
    refine Go_ifne_d d_M_come_16 (fun h16 => ?_) (fun h16 => ?_)
    · refine Go_aload d_M_come_21 lg0 ⟨_, rfl⟩ ?_
      refine Go_V0p d_M_come_22 kM (c_M_isFull (by omega) (by omega)) (Nat.le_of_ble_eq_true rfl) ?_
      refine Go_ifne_d d_M_come_25 (fun h25 => ?_) (fun h25 => ?_)
      · refine Go_const d_M_come_37 ?_
        exact Go_iretI d_M_come_39 (Or.inr (Or.inl ⟨by unfold comeOk; omega, by unfold FullP; omega, rfl, rfl⟩))
      · refine Go_aload d_M_come_28 lg0 ⟨_, rfl⟩ ?_
        refine Go_V0p d_M_come_29 kM (c_M_standing (by omega) hr) (Nat.le_of_ble_eq_true rfl) ?_
        refine Go_const d_M_come_32 ?_
        refine Go_icmp_lt d_M_come_34 (by omega) (by omega) (fun h34 => ?_) (fun h34 => ?_)
        · refine Go_aload d_M_come_40 lg0 ⟨_, rfl⟩ ?_
          refine Go_V0n d_M_come_41 kM (c_M_notes hu) (Nat.le_of_ble_eq_true rfl) ?_
          rintro S2 hS2
          have hN2 : S2 22 0 = S 22 0 := by rw [hS2, noteS_0]
          refine Go_aload d_M_come_44 lg0 ⟨_, rfl⟩ ?_
          refine Go_iload d_M_come_45 lg1 ?_
          refine Go_iload d_M_come_46 lg2 ?_
          refine Go_V2i d_M_come_47 kM (c_M_comes _ _ ha hb (by rw [hN2]; exact h)) (Nat.le_of_ble_eq_true rfl) ?_
          rintro z S3 ⟨N1, hz, hS3⟩
          rw [hN2] at hz
          exact Go_iretI d_M_come_50 (Or.inr (Or.inr ⟨by unfold comeOk; omega, by unfold FullP; omega, N1, hz, by rw [hS3, hS2]⟩))
        · refine Go_const d_M_come_37 ?_
          exact Go_iretI d_M_come_39 (Or.inr (Or.inl ⟨by unfold comeOk; omega, by unfold FullP; omega, rfl, rfl⟩))
    · refine Go_const d_M_come_19 ?_
      exact Go_iretI d_M_come_20 (Or.inl ⟨by unfold comeOk; omega, rfl, rfl⟩)
theorem c_M_tick (h : NR (S 22 0)) (hu : 0 ≤ S 22 8 0 ∧ S 22 8 0 ≤ 6) : Fn G k_M_tick [oR G 22] S (PI (fun z S1 => (FullP (S 22 0) ∧ z = -3 ∧ S1 = S) ∨ (¬ FullP (S 22 0) ∧ ∃ N1, TickR (S 22 0) z N1 ∧ S1 = sR (noteS S) 22 0 N1))) := by
  obtain ⟨hr, i0, i1, i2, i3, i4, i5, i6⟩ := id h

  refine Fn.of [some (oR G 22)] 0 rfl (by decide +kernel) rfl (Nat.le_of_ble_eq_true rfl) (by decide) ?_
  refine Go_aload d_M_tick_0 lg0 ⟨_, rfl⟩ ?_
  refine Go_V0p d_M_tick_1 kM (c_M_isFull (by omega) (by omega)) (Nat.le_of_ble_eq_true rfl) ?_
  refine Go_ifeq_d d_M_tick_4 (fun h4 => ?_) (fun h4 => ?_)
  · refine Go_aload d_M_tick_10 lg0 ⟨_, rfl⟩ ?_
    refine Go_V0n d_M_tick_11 kM (c_M_notes hu) (Nat.le_of_ble_eq_true rfl) ?_
    rintro S2 hS2
    have hN2 : S2 22 0 = S 22 0 := by rw [hS2, noteS_0]
    refine Go_aload d_M_tick_14 lg0 ⟨_, rfl⟩ ?_
    refine Go_V0i d_M_tick_15 kM (c_M_ticks (by rw [hN2]; exact h)) (Nat.le_of_ble_eq_true rfl) ?_
    rintro z S3 ⟨N1, hz, hS3⟩
    rw [hN2] at hz
    exact Go_iretI d_M_tick_18 (Or.inr ⟨h4, N1, hz, by rw [hS3, hS2]⟩)
  · refine Go_const d_M_tick_7 ?_
    exact Go_iretI d_M_tick_9 (Or.inl ⟨h4, rfl, rfl⟩)
theorem c_M_isTold (v x : Int) (hv : -2147483648 ≤ v ∧ v < 2147483648) (hx : -2147483648 ≤ x ∧ x < 2147483648) : Fn G k_M_isTold [vI v, vI x] S (PV (vI (bC (toldOk v x))) S) := by
  have hsw0 : v = 0 ∨ v = 1 ∨ v = 2 ∨ v = 3 ∨ (v < 0 ∨ 3 < v) := by omega
  refine Fn.of [some (vI v), some (vI x)] 0 rfl (by decide +kernel) rfl (Nat.le_of_ble_eq_true rfl) (by decide) ?_
  refine Go_iload d_M_isTold_0 lg0 ?_
  rcases hsw0 with rfl | rfl | rfl | rfl | hsw
  · refine Go_tswIn (t := 32) d_M_isTold_1 (by decide) (by decide) (by decide) rfl (by decide) ?_
    refine Go_iload d_M_isTold_32 lg1 ?_
    refine Go_i2l d_M_isTold_33 (by omega) ?_
    refine Go_lconst d_M_isTold_34 ?_
    refine Go_lconst d_M_isTold_35 ?_
    refine Go_S3p d_M_isTold_38 (c_M_in _ _ _ (by omega) (by omega) (by omega)) (Nat.le_of_ble_eq_true rfl) ?_
    exact Go_zretV d_M_isTold_41 (by first | exact Or.inl rfl | exact @bI_01 _ _) (by unfold toldOk bC bI; (repeat' split) <;> omega)
  · refine Go_tswIn (t := 42) d_M_isTold_1 (by decide) (by decide) (by decide) rfl (by decide) ?_
    refine Go_iload d_M_isTold_42 lg1 ?_
    refine Go_i2l d_M_isTold_43 (by omega) ?_
    refine Go_lconst d_M_isTold_44 ?_
    refine Go_lconst d_M_isTold_45 ?_
    refine Go_S3p d_M_isTold_48 (c_M_in _ _ _ (by omega) (by omega) (by omega)) (Nat.le_of_ble_eq_true rfl) ?_
    exact Go_zretV d_M_isTold_51 (by first | exact Or.inl rfl | exact @bI_01 _ _) (by unfold toldOk bC bI; (repeat' split) <;> omega)
  · refine Go_tswIn (t := 52) d_M_isTold_1 (by decide) (by decide) (by decide) rfl (by decide) ?_
    refine Go_iload d_M_isTold_52 lg1 ?_
    refine Go_i2l d_M_isTold_53 (by omega) ?_
    refine Go_lconst d_M_isTold_54 ?_
    refine Go_lconst d_M_isTold_55 ?_
    refine Go_S3p d_M_isTold_58 (c_M_in _ _ _ (by omega) (by omega) (by omega)) (Nat.le_of_ble_eq_true rfl) ?_
    exact Go_zretV d_M_isTold_61 (by first | exact Or.inl rfl | exact @bI_01 _ _) (by unfold toldOk bC bI; (repeat' split) <;> omega)
  · refine Go_tswIn (t := 62) d_M_isTold_1 (by decide) (by decide) (by decide) rfl (by decide) ?_
    refine Go_iload d_M_isTold_62 lg1 ?_
    refine Go_i2l d_M_isTold_63 (by omega) ?_
    refine Go_lconst d_M_isTold_64 ?_
    refine Go_lconst d_M_isTold_65 ?_
    refine Go_S3p d_M_isTold_68 (c_M_in _ _ _ (by omega) (by omega) (by omega)) (Nat.le_of_ble_eq_true rfl) ?_
    exact Go_zretV d_M_isTold_71 (by first | exact Or.inl rfl | exact @bI_01 _ _) (by unfold toldOk bC bI; (repeat' split) <;> omega)
  · refine Go_tswOut (t := 72) d_M_isTold_1 (by omega) hsw (by decide) ?_
    refine Go_const d_M_isTold_72 ?_
    exact Go_zretV d_M_isTold_73 (by first | exact Or.inl rfl | exact @bI_01 _ _) (by unfold toldOk bC bI; (repeat' split) <;> omega)
theorem c_M_tell (v x : Int) (hv : -2147483648 ≤ v ∧ v < 2147483648) (hx : -2147483648 ≤ x ∧ x < 2147483648) (hr : ∀ k, -2147483648 ≤ S 22 0 k ∧ S 22 0 k < 2147483648) (hu : 0 ≤ S 22 8 0 ∧ S 22 8 0 ≤ 6) : Fn G k_M_tell [oR G 22, vI v, vI x] S (PI (fun z S1 => (¬ toldOk v x ∧ z = -1 ∧ S1 = S) ∨ (toldOk v x ∧ S 22 0 v.toNat = x ∧ z = -2 ∧ S1 = S) ∨ (toldOk v x ∧ S 22 0 v.toNat ≠ x ∧ z = S 22 0 v.toNat ∧ S1 = sR (noteS S) 22 0 (up (S 22 0) v.toNat x)))) := by
  refine Fn.of [some (oR G 22), some (vI v), some (vI x), none] 1 rfl (by decide +kernel) rfl (Nat.le_of_ble_eq_true rfl) (by decide) ?_
  refine Go_iload d_M_tell_0 lg1 ?_
  refine Go_iload d_M_tell_1 lg2 ?_
  refine Go_S2p d_M_tell_2 (c_M_isTold _ _ (by omega) (by omega)) (Nat.le_of_ble_eq_true rfl) ?_
  refine Go_ifne_d d_M_tell_5 (fun h5 => ?_) (fun h5 => ?_)
  · refine Go_aload d_M_tell_10 lg0 ⟨_, rfl⟩ ?_
    refine Go_get d_M_tell_11 fm_0 ?_
    refine Go_iload d_M_tell_14 lg1 ?_
    refine Go_iald d_M_tell_15 am_0 (by unfold toldOk at h5; omega) ?_
    refine Go_istore d_M_tell_16 rfl sa3 ?_
    refine Go_iload d_M_tell_17 lg3 ?_
    refine Go_iload d_M_tell_18 lg2 ?_
    refine Go_icmp_ne d_M_tell_19 (by first | omega | exact hr _) (by first | omega | exact hr _) (fun h19 => ?_) (fun h19 => ?_)
    · refine Go_aload d_M_tell_25 lg0 ⟨_, rfl⟩ ?_
      refine Go_V0n d_M_tell_26 kM (c_M_notes hu) (Nat.le_of_ble_eq_true rfl) ?_
      rintro S2 hS2
      refine Go_aload d_M_tell_29 lg0 ⟨_, rfl⟩ ?_
      refine Go_get d_M_tell_30 fm_0 ?_
      refine Go_iload d_M_tell_33 lg1 ?_
      refine Go_iload d_M_tell_34 lg2 ?_
      refine Go_iast d_M_tell_35 am_0 (by unfold toldOk at h5; omega) ?_
      refine Go_iload d_M_tell_36 lg3 ?_
      exact Go_iretI d_M_tell_37 (Or.inr (Or.inr ⟨h5, h19, rfl, by rw [hS2, st3_sR, noteS_0]⟩))
    · refine Go_const d_M_tell_22 ?_
      exact Go_iretI d_M_tell_24 (Or.inr (Or.inl ⟨h5, h19, rfl, rfl⟩))
  · refine Go_const d_M_tell_8 ?_
    exact Go_iretI d_M_tell_9 (Or.inl ⟨h5, rfl, rfl⟩)
theorem c_M_begin (hm : 0 ≤ S 22 0 5 ∧ S 22 0 5 ≤ 79) (hu : 0 ≤ S 22 8 0 ∧ S 22 8 0 ≤ 6) : Fn G k_M_begin [oR G 22] S (PI (fun z S1 => (S 22 0 5 = 0 ∧ z = -2 ∧ S1 = S) ∨ (S 22 0 5 ≠ 0 ∧ z = S 22 0 5 ∧ S1 = sR (noteS S) 22 0 (up (up (S 22 0) 5 0) 6 0)))) := by
  refine Fn.of [some (oR G 22), none] 1 rfl (by decide +kernel) rfl (Nat.le_of_ble_eq_true rfl) (by decide) ?_
  refine Go_aload d_M_begin_0 lg0 ⟨_, rfl⟩ ?_
  refine Go_get d_M_begin_1 fm_0 ?_
  refine Go_const d_M_begin_4 ?_
  refine Go_ialdC (k0 := 5) d_M_begin_5 am_0 rfl (by decide) ?_
  refine Go_istore d_M_begin_6 rfl sa1 ?_
  refine Go_iload d_M_begin_7 lg1 ?_
  refine Go_if_ne d_M_begin_8 (by first | omega | exact hr _) (fun h8 => ?_) (fun h8 => ?_)
  · refine Go_aload d_M_begin_14 lg0 ⟨_, rfl⟩ ?_
    refine Go_V0n d_M_begin_15 kM (c_M_notes hu) (Nat.le_of_ble_eq_true rfl) ?_
    rintro S2 hS2
    refine Go_aload d_M_begin_18 lg0 ⟨_, rfl⟩ ?_
    refine Go_get d_M_begin_19 fm_0 ?_
    refine Go_const d_M_begin_22 ?_
    refine Go_const d_M_begin_23 ?_
    refine Go_iastC (k0 := 5) d_M_begin_24 am_0 rfl (by decide) ?_
    refine Go_aload d_M_begin_25 lg0 ⟨_, rfl⟩ ?_
    refine Go_get d_M_begin_26 fm_0 ?_
    refine Go_const d_M_begin_29 ?_
    refine Go_const d_M_begin_31 ?_
    refine Go_iastC (k0 := 6) d_M_begin_32 am_0 rfl (by decide) ?_
    refine Go_iload d_M_begin_33 lg1 ?_
    exact Go_iretI d_M_begin_34 (Or.inr ⟨h8, rfl, by rw [hS2, st3_sR (noteS S), st3_sR2, noteS_0]⟩)
  · refine Go_const d_M_begin_11 ?_
    exact Go_iretI d_M_begin_13 (Or.inl ⟨h8, rfl, rfl⟩)
theorem c_M_letter (i v : Int) (hi : -2147483648 ≤ i ∧ i < 2147483648) (hv : -2147483648 ≤ v ∧ v < 2147483648) (hm : 0 ≤ S 22 0 5 ∧ S 22 0 5 ≤ 79) : Fn G k_M_letter [oR G 22, vI i, vI v] S (PV (vI (if (0 ≤ i ∧ i < S 22 0 5) ∧ 0 ≤ v ∧ v ≤ 4 then lf (S 22 0) i v else -1)) S) := by
  refine Fn.of [some (oR G 22), some (vI i), some (vI v)] 0 rfl (by decide +kernel) rfl (Nat.le_of_ble_eq_true rfl) (by decide) ?_
  refine Go_aload d_M_letter_0 lg0 ⟨_, rfl⟩ ?_
  refine Go_iload d_M_letter_1 lg1 ?_
  refine Go_V1p d_M_letter_2 kM (c_M_isLetter _ (by omega) (by omega)) (Nat.le_of_ble_eq_true rfl) ?_
  refine Go_ifeq_d d_M_letter_5 (fun h5 => ?_) (fun h5 => ?_)
  · refine Go_const d_M_letter_29 ?_
    exact Go_iretV d_M_letter_30 (by first | rw [if_pos (by omega)] | rw [if_neg (by omega)])
  · refine Go_iload d_M_letter_8 lg2 ?_
    refine Go_i2l d_M_letter_9 (by first | omega | exact hr _) ?_
    refine Go_lconst d_M_letter_10 ?_
    refine Go_lconst d_M_letter_11 ?_
    refine Go_S3p d_M_letter_14 (c_M_in _ _ _ (by omega) (by omega) (by omega)) (Nat.le_of_ble_eq_true rfl) ?_
    refine Go_ifeq_d d_M_letter_17 (fun h17 => ?_) (fun h17 => ?_)
    · refine Go_const d_M_letter_29 ?_
      exact Go_iretV d_M_letter_30 (by first | rw [if_pos (by omega)] | rw [if_neg (by omega)])
    · refine Go_aload d_M_letter_20 lg0 ⟨_, rfl⟩ ?_
      refine Go_iload d_M_letter_21 lg1 ?_
      refine Go_iload d_M_letter_22 lg2 ?_
      refine Go_V2p d_M_letter_23 kM (c_M_of _ _ (by omega)) (Nat.le_of_ble_eq_true rfl) ?_
      refine Go_goto d_M_letter_26 ?_
      exact Go_iretV d_M_letter_30 (by first | rw [if_pos (by omega)] | rw [if_neg (by omega)])
theorem c_M_inside (k : Int) (hk : -2147483648 ≤ k ∧ k < 2147483648) (hm : 0 ≤ S 22 0 5 ∧ S 22 0 5 ≤ 79) (hr : ∀ k, -2147483648 ≤ S 22 0 k ∧ S 22 0 k < 2147483648) : Fn G k_M_inside [oR G 22, vI k] S (PV (vI (if k < 0 then -1 else sat (S 22 0) k (S 22 0 5).toNat)) S) := by
  refine Fn.of [some (oR G 22), some (vI k)] 0 rfl (by decide +kernel) rfl (Nat.le_of_ble_eq_true rfl) (by decide) ?_
  refine Go_iload d_M_inside_0 lg1 ?_
  refine Go_if_ge d_M_inside_1 (by first | omega | exact hr _) (fun h1 => ?_) (fun h1 => ?_)
  · refine Go_aload d_M_inside_8 lg0 ⟨_, rfl⟩ ?_
    refine Go_iload d_M_inside_9 lg1 ?_
    refine Go_V1p d_M_inside_10 kM (c_M_standsAt _ (by omega) (by omega) hr) (Nat.le_of_ble_eq_true rfl) ?_
    exact Go_iretV d_M_inside_13 (by first | rw [if_pos (by omega)] | rw [if_neg (by omega)])
  · refine Go_const d_M_inside_4 ?_
    refine Go_goto d_M_inside_5 ?_
    exact Go_iretV d_M_inside_13 (by first | rw [if_pos (by omega)] | rw [if_neg (by omega)])
theorem c_M_wasInside (i r : Int) (hi : 0 ≤ i ∧ i < 79) (hr0 : -2147483648 ≤ r ∧ r < 2147483648) (hr : ∀ k, -2147483648 ≤ S 22 0 k ∧ S 22 0 k < 2147483648) : Fn G k_M_wasInside [oR G 22, vI i, vI r] S (PV (vI (bI (lf (S 22 0) i 2 ≤ r ∧ (lf (S 22 0) i 3 = -4 ∨ r ≤ lf (S 22 0) i 3)))) S) := by
  refine Fn.of [some (oR G 22), some (vI i), some (vI r)] 0 rfl (by decide +kernel) rfl (Nat.le_of_ble_eq_true rfl) (by decide) ?_
  refine Go_aload d_M_wasInside_0 lg0 ⟨_, rfl⟩ ?_
  refine Go_iload d_M_wasInside_1 lg1 ?_
  refine Go_const d_M_wasInside_2 ?_
  refine Go_V2p d_M_wasInside_3 kM (c_M_of _ _ (by omega)) (Nat.le_of_ble_eq_true rfl) ?_
  refine Go_iload d_M_wasInside_6 lg2 ?_
  refine Go_icmp_gt d_M_wasInside_7 (by first | omega | exact hr _) (by first | omega | exact hr _) (fun h7 => ?_) (fun h7 => ?_)
  · refine Go_const d_M_wasInside_32 ?_
    exact Go_zretV d_M_wasInside_33 (by first | exact Or.inl rfl | exact Or.inr rfl | exact @bI_01 _ _) (by first | rfl | exact (bI_pos (by omega)).symm | exact (bI_neg (by omega)).symm)
  · refine Go_aload d_M_wasInside_10 lg0 ⟨_, rfl⟩ ?_
    refine Go_iload d_M_wasInside_11 lg1 ?_
    refine Go_V1p d_M_wasInside_12 kM (c_M_stands _ (by omega) hr) (Nat.le_of_ble_eq_true rfl) ?_
    refine Go_ifne_d d_M_wasInside_15 (fun h15 => ?_) (fun h15 => ?_)
    · refine Go_const d_M_wasInside_28 ?_
      refine Go_goto d_M_wasInside_29 ?_
      exact Go_zretV d_M_wasInside_33 (by first | exact Or.inl rfl | exact Or.inr rfl | exact @bI_01 _ _) (by first | rfl | exact (bI_pos (by omega)).symm | exact (bI_neg (by omega)).symm)
    · refine Go_aload d_M_wasInside_18 lg0 ⟨_, rfl⟩ ?_
      refine Go_iload d_M_wasInside_19 lg1 ?_
      refine Go_const d_M_wasInside_20 ?_
      refine Go_V2p d_M_wasInside_21 kM (c_M_of _ _ (by omega)) (Nat.le_of_ble_eq_true rfl) ?_
      refine Go_iload d_M_wasInside_24 lg2 ?_
      refine Go_icmp_lt d_M_wasInside_25 (by first | omega | exact hr _) (by first | omega | exact hr _) (fun h25 => ?_) (fun h25 => ?_)
      · refine Go_const d_M_wasInside_32 ?_
        exact Go_zretV d_M_wasInside_33 (by first | exact Or.inl rfl | exact Or.inr rfl | exact @bI_01 _ _) (by first | rfl | exact (bI_pos (by omega)).symm | exact (bI_neg (by omega)).symm)
      · refine Go_const d_M_wasInside_28 ?_
        refine Go_goto d_M_wasInside_29 ?_
        exact Go_zretV d_M_wasInside_33 (by first | exact Or.inl rfl | exact Or.inr rfl | exact @bI_01 _ _) (by first | rfl | exact (bI_pos (by omega)).symm | exact (bI_neg (by omega)).symm)
set_option maxHeartbeats 4000000 in
theorem c_M_roundOf (r v : Int) (hr0 : -2147483648 ≤ r ∧ r < 2147483648) (hv : 0 ≤ v ∧ v ≤ 5) (hm : 0 ≤ S 22 0 5 ∧ S 22 0 5 ≤ 79) (hr : ∀ k, -2147483648 ≤ S 22 0 k ∧ S 22 0 k < 2147483648) : Fn G k_M_roundOf [oR G 22, vI r, vI v] S (PV (vI (rof (S 22 0) r v (S 22 0 5).toNat)) S) := by
  refine Fn.of [some (oR G 22), some (vI r), some (vI v), none, none, none, none, none] 5 rfl (by decide +kernel) rfl (Nat.le_of_ble_eq_true rfl) (by decide) ?_

  have loop := loopI (fun i => ∀ n : Int, n = rof (S 22 0) r v i.toNat → Go G k_M_roundOf 5 [some (oR G 22), some (vI r), some (vI v), some (vI n), some (vI i), none, none, none] [] S (PV (vI (rof (S 22 0) r v (S 22 0 5).toNat)) S)) (S 22 0 5) ?_ ?_
  refine Go_const d_M_roundOf_0 ?_
  refine Go_istore d_M_roundOf_1 rfl sa3 ?_
  refine Go_const d_M_roundOf_2 ?_
  refine Go_istore d_M_roundOf_3 rfl sa4 ?_
  exact loop 0 (by omega) (by omega) 0 rfl
  · intro n hn
    refine Go_iload d_M_roundOf_5 lg4 ?_
    refine Go_aload d_M_roundOf_7 lg0 ⟨_, rfl⟩ ?_
    refine Go_get d_M_roundOf_8 fm_0 ?_
    refine Go_const d_M_roundOf_11 ?_
    refine Go_ialdC (k0 := 5) d_M_roundOf_12 am_0 rfl (by decide) ?_
    refine Go_icmp_ge d_M_roundOf_13 (by first | omega | exact hr _) (by first | omega | exact hr _) (fun h13 => ?_) (fun h13 => absurd h13 (by omega))
    refine Go_iload d_M_roundOf_197 lg3 ?_
    exact Go_iretV d_M_roundOf_198 hn
  · intro i h0 h1 ih n hn
    have hb := rof_0 (S 22 0) r v i.toNat
    refine Go_iload d_M_roundOf_5 lg4 ?_
    refine Go_aload d_M_roundOf_7 lg0 ⟨_, rfl⟩ ?_
    refine Go_get d_M_roundOf_8 fm_0 ?_
    refine Go_const d_M_roundOf_11 ?_
    refine Go_ialdC (k0 := 5) d_M_roundOf_12 am_0 rfl (by decide) ?_
    refine Go_icmp_ge d_M_roundOf_13 (by first | omega | exact hr _) (by first | omega | exact hr _) (fun h13 => absurd h13 (by omega)) (fun h13 => ?_)
    refine Go_aload d_M_roundOf_16 lg0 ⟨_, rfl⟩ ?_
    refine Go_iload d_M_roundOf_17 lg4 ?_
    refine Go_iload d_M_roundOf_19 lg1 ?_
    refine Go_V2p d_M_roundOf_20 kM (c_M_wasInside _ _ (by omega) (by omega) hr) (Nat.le_of_ble_eq_true rfl) ?_
    refine Go_istore d_M_roundOf_23 rfl sa5 ?_
    refine Go_aload d_M_roundOf_25 lg0 ⟨_, rfl⟩ ?_
    refine Go_iload d_M_roundOf_26 lg4 ?_
    refine Go_const d_M_roundOf_28 ?_
    refine Go_V2p d_M_roundOf_29 kM (c_M_of _ _ (by omega)) (Nat.le_of_ble_eq_true rfl) ?_
    refine Go_iload d_M_roundOf_32 lg1 ?_
    refine Go_icmp_ne d_M_roundOf_33 (by first | omega | exact hr _) (by first | omega | exact hr _) (fun h33 => ?_) (fun h33 => ?_)
    · refine Go_const d_M_roundOf_40 ?_
      refine Go_istore d_M_roundOf_41 rfl sa6 ?_
      refine Go_iload d_M_roundOf_43 lg2 ?_
      refine Go_if_ne d_M_roundOf_44 (by first | omega | exact hr _) (fun h44 => ?_) (fun h44 => ?_)
      · refine Go_iload d_M_roundOf_52 lg2 ?_
        refine Go_const d_M_roundOf_53 ?_
        refine Go_icmp_ne d_M_roundOf_54 (by first | omega | exact hr _) (by first | omega | exact hr _) (fun h54 => ?_) (fun h54 => ?_)
        · refine Go_iload d_M_roundOf_62 lg2 ?_
          refine Go_const d_M_roundOf_63 ?_
          refine Go_icmp_ne d_M_roundOf_64 (by first | omega | exact hr _) (by first | omega | exact hr _) (fun h64 => ?_) (fun h64 => ?_)
          · refine Go_iload d_M_roundOf_89 lg2 ?_
            refine Go_const d_M_roundOf_90 ?_
            refine Go_icmp_ne d_M_roundOf_91 (by first | omega | exact hr _) (by first | omega | exact hr _) (fun h91 => ?_) (fun h91 => ?_)
            · refine Go_iload d_M_roundOf_116 lg2 ?_
              refine Go_const d_M_roundOf_117 ?_
              refine Go_icmp_ne d_M_roundOf_118 (by first | omega | exact hr _) (by first | omega | exact hr _) (fun h118 => ?_) (fun h118 => ?_)
              · refine Go_iload d_M_roundOf_143 lg5 ?_
                refine Go_ifeq_d d_M_roundOf_145 (fun h145 => ?_) (fun h145 => ?_)
                · refine Go_const d_M_roundOf_175 ?_
                  refine Go_istore d_M_roundOf_176 rfl sa7 ?_
                  refine Go_iload d_M_roundOf_178 lg3 ?_
                  refine Go_iload d_M_roundOf_179 lg7 ?_
                  refine Go_if_eq d_M_roundOf_181 (by decide) (fun _ => ?_) (fun h => absurd h (by decide))
                  refine Go_const d_M_roundOf_188 ?_
                  refine Go_iadd d_M_roundOf_189 ?_
                  refine Go_istore d_M_roundOf_190 rfl sa3 ?_
                  refine Go_iinc d_M_roundOf_191 lg4 rfl sa4 ?_
                  refine Go_goto d_M_roundOf_194 ?_
                  refine fg5 (fg6 (fg7 (ih _ ?_)))
                  rw [rof_S _ _ _ _ h0, hn]
                  first
                    | rw [← bC1 (show rofP (S 22 0) r v i by unfold rofP wasP; omega)]
                    | rw [← bC0 (show ¬ rofP (S 22 0) r v i by unfold rofP wasP; omega)]
                · refine Go_aload d_M_roundOf_148 lg0 ⟨_, rfl⟩ ?_
                  refine Go_iload d_M_roundOf_149 lg4 ?_
                  refine Go_const d_M_roundOf_151 ?_
                  refine Go_V2p d_M_roundOf_152 kM (c_M_of _ _ (by omega)) (Nat.le_of_ble_eq_true rfl) ?_
                  refine Go_const d_M_roundOf_155 ?_
                  refine Go_icmp_ne d_M_roundOf_157 (by first | omega | exact hr _) (by first | omega | exact hr _) (fun h157 => ?_) (fun h157 => ?_)
                  · refine Go_const d_M_roundOf_175 ?_
                    refine Go_istore d_M_roundOf_176 rfl sa7 ?_
                    refine Go_iload d_M_roundOf_178 lg3 ?_
                    refine Go_iload d_M_roundOf_179 lg7 ?_
                    refine Go_if_eq d_M_roundOf_181 (by decide) (fun _ => ?_) (fun h => absurd h (by decide))
                    refine Go_const d_M_roundOf_188 ?_
                    refine Go_iadd d_M_roundOf_189 ?_
                    refine Go_istore d_M_roundOf_190 rfl sa3 ?_
                    refine Go_iinc d_M_roundOf_191 lg4 rfl sa4 ?_
                    refine Go_goto d_M_roundOf_194 ?_
                    refine fg5 (fg6 (fg7 (ih _ ?_)))
                    rw [rof_S _ _ _ _ h0, hn]
                    first
                      | rw [← bC1 (show rofP (S 22 0) r v i by unfold rofP wasP; omega)]
                      | rw [← bC0 (show ¬ rofP (S 22 0) r v i by unfold rofP wasP; omega)]
                  · refine Go_aload d_M_roundOf_160 lg0 ⟨_, rfl⟩ ?_
                    refine Go_iload d_M_roundOf_161 lg4 ?_
                    refine Go_const d_M_roundOf_163 ?_
                    refine Go_V2p d_M_roundOf_164 kM (c_M_of _ _ (by omega)) (Nat.le_of_ble_eq_true rfl) ?_
                    refine Go_iload d_M_roundOf_167 lg1 ?_
                    refine Go_icmp_ne d_M_roundOf_168 (by first | omega | exact hr _) (by first | omega | exact hr _) (fun h168 => ?_) (fun h168 => ?_)
                    · refine Go_const d_M_roundOf_175 ?_
                      refine Go_istore d_M_roundOf_176 rfl sa7 ?_
                      refine Go_iload d_M_roundOf_178 lg3 ?_
                      refine Go_iload d_M_roundOf_179 lg7 ?_
                      refine Go_if_eq d_M_roundOf_181 (by decide) (fun _ => ?_) (fun h => absurd h (by decide))
                      refine Go_const d_M_roundOf_188 ?_
                      refine Go_iadd d_M_roundOf_189 ?_
                      refine Go_istore d_M_roundOf_190 rfl sa3 ?_
                      refine Go_iinc d_M_roundOf_191 lg4 rfl sa4 ?_
                      refine Go_goto d_M_roundOf_194 ?_
                      refine fg5 (fg6 (fg7 (ih _ ?_)))
                      rw [rof_S _ _ _ _ h0, hn]
                      first
                        | rw [← bC1 (show rofP (S 22 0) r v i by unfold rofP wasP; omega)]
                        | rw [← bC0 (show ¬ rofP (S 22 0) r v i by unfold rofP wasP; omega)]
                    · refine Go_const d_M_roundOf_171 ?_
                      refine Go_goto d_M_roundOf_172 ?_
                      refine Go_istore d_M_roundOf_176 rfl sa7 ?_
                      refine Go_iload d_M_roundOf_178 lg3 ?_
                      refine Go_iload d_M_roundOf_179 lg7 ?_
                      refine Go_if_eq d_M_roundOf_181 (by decide) (fun h => absurd h (by decide)) (fun _ => ?_)
                      refine Go_const d_M_roundOf_184 ?_
                      refine Go_goto d_M_roundOf_185 ?_
                      refine Go_iadd d_M_roundOf_189 ?_
                      refine Go_istore d_M_roundOf_190 rfl sa3 ?_
                      refine Go_iinc d_M_roundOf_191 lg4 rfl sa4 ?_
                      refine Go_goto d_M_roundOf_194 ?_
                      refine fg5 (fg6 (fg7 (ih _ ?_)))
                      rw [rof_S _ _ _ _ h0, hn]
                      first
                        | rw [← bC1 (show rofP (S 22 0) r v i by unfold rofP wasP; omega)]
                        | rw [← bC0 (show ¬ rofP (S 22 0) r v i by unfold rofP wasP; omega)]
              · refine Go_iload d_M_roundOf_121 lg6 ?_
                refine Go_if_eq d_M_roundOf_123 (by decide) (fun _ => ?_) (fun h => absurd h (by decide))
                refine Go_const d_M_roundOf_139 ?_
                refine Go_goto d_M_roundOf_140 ?_
                refine Go_istore d_M_roundOf_176 rfl sa7 ?_
                refine Go_iload d_M_roundOf_178 lg3 ?_
                refine Go_iload d_M_roundOf_179 lg7 ?_
                refine Go_if_eq d_M_roundOf_181 (by decide) (fun _ => ?_) (fun h => absurd h (by decide))
                refine Go_const d_M_roundOf_188 ?_
                refine Go_iadd d_M_roundOf_189 ?_
                refine Go_istore d_M_roundOf_190 rfl sa3 ?_
                refine Go_iinc d_M_roundOf_191 lg4 rfl sa4 ?_
                refine Go_goto d_M_roundOf_194 ?_
                refine fg5 (fg6 (fg7 (ih _ ?_)))
                rw [rof_S _ _ _ _ h0, hn]
                first
                  | rw [← bC1 (show rofP (S 22 0) r v i by unfold rofP wasP; omega)]
                  | rw [← bC0 (show ¬ rofP (S 22 0) r v i by unfold rofP wasP; omega)]
            · refine Go_iload d_M_roundOf_94 lg5 ?_
              refine Go_ifeq_d d_M_roundOf_96 (fun h96 => ?_) (fun h96 => ?_)
              · refine Go_const d_M_roundOf_112 ?_
                refine Go_goto d_M_roundOf_113 ?_
                refine Go_istore d_M_roundOf_176 rfl sa7 ?_
                refine Go_iload d_M_roundOf_178 lg3 ?_
                refine Go_iload d_M_roundOf_179 lg7 ?_
                refine Go_if_eq d_M_roundOf_181 (by decide) (fun _ => ?_) (fun h => absurd h (by decide))
                refine Go_const d_M_roundOf_188 ?_
                refine Go_iadd d_M_roundOf_189 ?_
                refine Go_istore d_M_roundOf_190 rfl sa3 ?_
                refine Go_iinc d_M_roundOf_191 lg4 rfl sa4 ?_
                refine Go_goto d_M_roundOf_194 ?_
                refine fg5 (fg6 (fg7 (ih _ ?_)))
                rw [rof_S _ _ _ _ h0, hn]
                first
                  | rw [← bC1 (show rofP (S 22 0) r v i by unfold rofP wasP; omega)]
                  | rw [← bC0 (show ¬ rofP (S 22 0) r v i by unfold rofP wasP; omega)]
              · refine Go_aload d_M_roundOf_99 lg0 ⟨_, rfl⟩ ?_
                refine Go_iload d_M_roundOf_100 lg4 ?_
                refine Go_V1p d_M_roundOf_102 kM (c_M_isOwn _ (by omega) hr) (Nat.le_of_ble_eq_true rfl) ?_
                refine Go_ifne_d d_M_roundOf_105 (fun h105 => ?_) (fun h105 => ?_)
                · refine Go_const d_M_roundOf_112 ?_
                  refine Go_goto d_M_roundOf_113 ?_
                  refine Go_istore d_M_roundOf_176 rfl sa7 ?_
                  refine Go_iload d_M_roundOf_178 lg3 ?_
                  refine Go_iload d_M_roundOf_179 lg7 ?_
                  refine Go_if_eq d_M_roundOf_181 (by decide) (fun _ => ?_) (fun h => absurd h (by decide))
                  refine Go_const d_M_roundOf_188 ?_
                  refine Go_iadd d_M_roundOf_189 ?_
                  refine Go_istore d_M_roundOf_190 rfl sa3 ?_
                  refine Go_iinc d_M_roundOf_191 lg4 rfl sa4 ?_
                  refine Go_goto d_M_roundOf_194 ?_
                  refine fg5 (fg6 (fg7 (ih _ ?_)))
                  rw [rof_S _ _ _ _ h0, hn]
                  first
                    | rw [← bC1 (show rofP (S 22 0) r v i by unfold rofP wasP; omega)]
                    | rw [← bC0 (show ¬ rofP (S 22 0) r v i by unfold rofP wasP; omega)]
                · refine Go_const d_M_roundOf_108 ?_
                  refine Go_goto d_M_roundOf_109 ?_
                  refine Go_istore d_M_roundOf_176 rfl sa7 ?_
                  refine Go_iload d_M_roundOf_178 lg3 ?_
                  refine Go_iload d_M_roundOf_179 lg7 ?_
                  refine Go_if_eq d_M_roundOf_181 (by decide) (fun h => absurd h (by decide)) (fun _ => ?_)
                  refine Go_const d_M_roundOf_184 ?_
                  refine Go_goto d_M_roundOf_185 ?_
                  refine Go_iadd d_M_roundOf_189 ?_
                  refine Go_istore d_M_roundOf_190 rfl sa3 ?_
                  refine Go_iinc d_M_roundOf_191 lg4 rfl sa4 ?_
                  refine Go_goto d_M_roundOf_194 ?_
                  refine fg5 (fg6 (fg7 (ih _ ?_)))
                  rw [rof_S _ _ _ _ h0, hn]
                  first
                    | rw [← bC1 (show rofP (S 22 0) r v i by unfold rofP wasP; omega)]
                    | rw [← bC0 (show ¬ rofP (S 22 0) r v i by unfold rofP wasP; omega)]
          · refine Go_iload d_M_roundOf_67 lg6 ?_
            refine Go_if_eq d_M_roundOf_69 (by decide) (fun _ => ?_) (fun h => absurd h (by decide))
            refine Go_const d_M_roundOf_85 ?_
            refine Go_goto d_M_roundOf_86 ?_
            refine Go_istore d_M_roundOf_176 rfl sa7 ?_
            refine Go_iload d_M_roundOf_178 lg3 ?_
            refine Go_iload d_M_roundOf_179 lg7 ?_
            refine Go_if_eq d_M_roundOf_181 (by decide) (fun _ => ?_) (fun h => absurd h (by decide))
            refine Go_const d_M_roundOf_188 ?_
            refine Go_iadd d_M_roundOf_189 ?_
            refine Go_istore d_M_roundOf_190 rfl sa3 ?_
            refine Go_iinc d_M_roundOf_191 lg4 rfl sa4 ?_
            refine Go_goto d_M_roundOf_194 ?_
            refine fg5 (fg6 (fg7 (ih _ ?_)))
            rw [rof_S _ _ _ _ h0, hn]
            first
              | rw [← bC1 (show rofP (S 22 0) r v i by unfold rofP wasP; omega)]
              | rw [← bC0 (show ¬ rofP (S 22 0) r v i by unfold rofP wasP; omega)]
        · refine Go_iload d_M_roundOf_57 lg6 ?_
          refine Go_goto d_M_roundOf_59 ?_
          refine Go_istore d_M_roundOf_176 rfl sa7 ?_
          refine Go_iload d_M_roundOf_178 lg3 ?_
          refine Go_iload d_M_roundOf_179 lg7 ?_
          refine Go_if_eq d_M_roundOf_181 (by decide) (fun _ => ?_) (fun h => absurd h (by decide))
          refine Go_const d_M_roundOf_188 ?_
          refine Go_iadd d_M_roundOf_189 ?_
          refine Go_istore d_M_roundOf_190 rfl sa3 ?_
          refine Go_iinc d_M_roundOf_191 lg4 rfl sa4 ?_
          refine Go_goto d_M_roundOf_194 ?_
          refine fg5 (fg6 (fg7 (ih _ ?_)))
          rw [rof_S _ _ _ _ h0, hn]
          first
            | rw [← bC1 (show rofP (S 22 0) r v i by unfold rofP wasP; omega)]
            | rw [← bC0 (show ¬ rofP (S 22 0) r v i by unfold rofP wasP; omega)]
      · refine Go_iload d_M_roundOf_47 lg5 ?_
        refine Go_goto d_M_roundOf_49 ?_
        refine Go_istore d_M_roundOf_176 rfl sa7 ?_
        refine Go_iload d_M_roundOf_178 lg3 ?_
        refine Go_iload d_M_roundOf_179 lg7 ?_
        refine Go_ifeq_d d_M_roundOf_181 (fun h181 => ?_) (fun h181 => ?_)
        · refine Go_const d_M_roundOf_188 ?_
          refine Go_iadd d_M_roundOf_189 ?_
          refine Go_istore d_M_roundOf_190 rfl sa3 ?_
          refine Go_iinc d_M_roundOf_191 lg4 rfl sa4 ?_
          refine Go_goto d_M_roundOf_194 ?_
          refine fg5 (fg6 (fg7 (ih _ ?_)))
          rw [rof_S _ _ _ _ h0, hn]
          first
            | rw [← bC1 (show rofP (S 22 0) r v i by unfold rofP wasP; omega)]
            | rw [← bC0 (show ¬ rofP (S 22 0) r v i by unfold rofP wasP; omega)]
        · refine Go_const d_M_roundOf_184 ?_
          refine Go_goto d_M_roundOf_185 ?_
          refine Go_iadd d_M_roundOf_189 ?_
          refine Go_istore d_M_roundOf_190 rfl sa3 ?_
          refine Go_iinc d_M_roundOf_191 lg4 rfl sa4 ?_
          refine Go_goto d_M_roundOf_194 ?_
          refine fg5 (fg6 (fg7 (ih _ ?_)))
          rw [rof_S _ _ _ _ h0, hn]
          first
            | rw [← bC1 (show rofP (S 22 0) r v i by unfold rofP wasP; omega)]
            | rw [← bC0 (show ¬ rofP (S 22 0) r v i by unfold rofP wasP; omega)]
    · refine Go_const d_M_roundOf_36 ?_
      refine Go_goto d_M_roundOf_37 ?_
      refine Go_istore d_M_roundOf_41 rfl sa6 ?_
      refine Go_iload d_M_roundOf_43 lg2 ?_
      refine Go_if_ne d_M_roundOf_44 (by first | omega | exact hr _) (fun h44 => ?_) (fun h44 => ?_)
      · refine Go_iload d_M_roundOf_52 lg2 ?_
        refine Go_const d_M_roundOf_53 ?_
        refine Go_icmp_ne d_M_roundOf_54 (by first | omega | exact hr _) (by first | omega | exact hr _) (fun h54 => ?_) (fun h54 => ?_)
        · refine Go_iload d_M_roundOf_62 lg2 ?_
          refine Go_const d_M_roundOf_63 ?_
          refine Go_icmp_ne d_M_roundOf_64 (by first | omega | exact hr _) (by first | omega | exact hr _) (fun h64 => ?_) (fun h64 => ?_)
          · refine Go_iload d_M_roundOf_89 lg2 ?_
            refine Go_const d_M_roundOf_90 ?_
            refine Go_icmp_ne d_M_roundOf_91 (by first | omega | exact hr _) (by first | omega | exact hr _) (fun h91 => ?_) (fun h91 => ?_)
            · refine Go_iload d_M_roundOf_116 lg2 ?_
              refine Go_const d_M_roundOf_117 ?_
              refine Go_icmp_ne d_M_roundOf_118 (by first | omega | exact hr _) (by first | omega | exact hr _) (fun h118 => ?_) (fun h118 => ?_)
              · refine Go_iload d_M_roundOf_143 lg5 ?_
                refine Go_ifeq_d d_M_roundOf_145 (fun h145 => ?_) (fun h145 => ?_)
                · refine Go_const d_M_roundOf_175 ?_
                  refine Go_istore d_M_roundOf_176 rfl sa7 ?_
                  refine Go_iload d_M_roundOf_178 lg3 ?_
                  refine Go_iload d_M_roundOf_179 lg7 ?_
                  refine Go_if_eq d_M_roundOf_181 (by decide) (fun _ => ?_) (fun h => absurd h (by decide))
                  refine Go_const d_M_roundOf_188 ?_
                  refine Go_iadd d_M_roundOf_189 ?_
                  refine Go_istore d_M_roundOf_190 rfl sa3 ?_
                  refine Go_iinc d_M_roundOf_191 lg4 rfl sa4 ?_
                  refine Go_goto d_M_roundOf_194 ?_
                  refine fg5 (fg6 (fg7 (ih _ ?_)))
                  rw [rof_S _ _ _ _ h0, hn]
                  first
                    | rw [← bC1 (show rofP (S 22 0) r v i by unfold rofP wasP; omega)]
                    | rw [← bC0 (show ¬ rofP (S 22 0) r v i by unfold rofP wasP; omega)]
                · refine Go_aload d_M_roundOf_148 lg0 ⟨_, rfl⟩ ?_
                  refine Go_iload d_M_roundOf_149 lg4 ?_
                  refine Go_const d_M_roundOf_151 ?_
                  refine Go_V2p d_M_roundOf_152 kM (c_M_of _ _ (by omega)) (Nat.le_of_ble_eq_true rfl) ?_
                  refine Go_const d_M_roundOf_155 ?_
                  refine Go_icmp_ne d_M_roundOf_157 (by first | omega | exact hr _) (by first | omega | exact hr _) (fun h157 => ?_) (fun h157 => ?_)
                  · refine Go_const d_M_roundOf_175 ?_
                    refine Go_istore d_M_roundOf_176 rfl sa7 ?_
                    refine Go_iload d_M_roundOf_178 lg3 ?_
                    refine Go_iload d_M_roundOf_179 lg7 ?_
                    refine Go_if_eq d_M_roundOf_181 (by decide) (fun _ => ?_) (fun h => absurd h (by decide))
                    refine Go_const d_M_roundOf_188 ?_
                    refine Go_iadd d_M_roundOf_189 ?_
                    refine Go_istore d_M_roundOf_190 rfl sa3 ?_
                    refine Go_iinc d_M_roundOf_191 lg4 rfl sa4 ?_
                    refine Go_goto d_M_roundOf_194 ?_
                    refine fg5 (fg6 (fg7 (ih _ ?_)))
                    rw [rof_S _ _ _ _ h0, hn]
                    first
                      | rw [← bC1 (show rofP (S 22 0) r v i by unfold rofP wasP; omega)]
                      | rw [← bC0 (show ¬ rofP (S 22 0) r v i by unfold rofP wasP; omega)]
                  · refine Go_aload d_M_roundOf_160 lg0 ⟨_, rfl⟩ ?_
                    refine Go_iload d_M_roundOf_161 lg4 ?_
                    refine Go_const d_M_roundOf_163 ?_
                    refine Go_V2p d_M_roundOf_164 kM (c_M_of _ _ (by omega)) (Nat.le_of_ble_eq_true rfl) ?_
                    refine Go_iload d_M_roundOf_167 lg1 ?_
                    refine Go_icmp_ne d_M_roundOf_168 (by first | omega | exact hr _) (by first | omega | exact hr _) (fun h168 => ?_) (fun h168 => ?_)
                    · refine Go_const d_M_roundOf_175 ?_
                      refine Go_istore d_M_roundOf_176 rfl sa7 ?_
                      refine Go_iload d_M_roundOf_178 lg3 ?_
                      refine Go_iload d_M_roundOf_179 lg7 ?_
                      refine Go_if_eq d_M_roundOf_181 (by decide) (fun _ => ?_) (fun h => absurd h (by decide))
                      refine Go_const d_M_roundOf_188 ?_
                      refine Go_iadd d_M_roundOf_189 ?_
                      refine Go_istore d_M_roundOf_190 rfl sa3 ?_
                      refine Go_iinc d_M_roundOf_191 lg4 rfl sa4 ?_
                      refine Go_goto d_M_roundOf_194 ?_
                      refine fg5 (fg6 (fg7 (ih _ ?_)))
                      rw [rof_S _ _ _ _ h0, hn]
                      first
                        | rw [← bC1 (show rofP (S 22 0) r v i by unfold rofP wasP; omega)]
                        | rw [← bC0 (show ¬ rofP (S 22 0) r v i by unfold rofP wasP; omega)]
                    · refine Go_const d_M_roundOf_171 ?_
                      refine Go_goto d_M_roundOf_172 ?_
                      refine Go_istore d_M_roundOf_176 rfl sa7 ?_
                      refine Go_iload d_M_roundOf_178 lg3 ?_
                      refine Go_iload d_M_roundOf_179 lg7 ?_
                      refine Go_if_eq d_M_roundOf_181 (by decide) (fun h => absurd h (by decide)) (fun _ => ?_)
                      refine Go_const d_M_roundOf_184 ?_
                      refine Go_goto d_M_roundOf_185 ?_
                      refine Go_iadd d_M_roundOf_189 ?_
                      refine Go_istore d_M_roundOf_190 rfl sa3 ?_
                      refine Go_iinc d_M_roundOf_191 lg4 rfl sa4 ?_
                      refine Go_goto d_M_roundOf_194 ?_
                      refine fg5 (fg6 (fg7 (ih _ ?_)))
                      rw [rof_S _ _ _ _ h0, hn]
                      first
                        | rw [← bC1 (show rofP (S 22 0) r v i by unfold rofP wasP; omega)]
                        | rw [← bC0 (show ¬ rofP (S 22 0) r v i by unfold rofP wasP; omega)]
              · refine Go_iload d_M_roundOf_121 lg6 ?_
                refine Go_if_eq d_M_roundOf_123 (by decide) (fun h => absurd h (by decide)) (fun _ => ?_)
                refine Go_aload d_M_roundOf_126 lg0 ⟨_, rfl⟩ ?_
                refine Go_iload d_M_roundOf_127 lg4 ?_
                refine Go_V1p d_M_roundOf_129 kM (c_M_isOwn _ (by omega) hr) (Nat.le_of_ble_eq_true rfl) ?_
                refine Go_ifne_d d_M_roundOf_132 (fun h132 => ?_) (fun h132 => ?_)
                · refine Go_const d_M_roundOf_139 ?_
                  refine Go_goto d_M_roundOf_140 ?_
                  refine Go_istore d_M_roundOf_176 rfl sa7 ?_
                  refine Go_iload d_M_roundOf_178 lg3 ?_
                  refine Go_iload d_M_roundOf_179 lg7 ?_
                  refine Go_if_eq d_M_roundOf_181 (by decide) (fun _ => ?_) (fun h => absurd h (by decide))
                  refine Go_const d_M_roundOf_188 ?_
                  refine Go_iadd d_M_roundOf_189 ?_
                  refine Go_istore d_M_roundOf_190 rfl sa3 ?_
                  refine Go_iinc d_M_roundOf_191 lg4 rfl sa4 ?_
                  refine Go_goto d_M_roundOf_194 ?_
                  refine fg5 (fg6 (fg7 (ih _ ?_)))
                  rw [rof_S _ _ _ _ h0, hn]
                  first
                    | rw [← bC1 (show rofP (S 22 0) r v i by unfold rofP wasP; omega)]
                    | rw [← bC0 (show ¬ rofP (S 22 0) r v i by unfold rofP wasP; omega)]
                · refine Go_const d_M_roundOf_135 ?_
                  refine Go_goto d_M_roundOf_136 ?_
                  refine Go_istore d_M_roundOf_176 rfl sa7 ?_
                  refine Go_iload d_M_roundOf_178 lg3 ?_
                  refine Go_iload d_M_roundOf_179 lg7 ?_
                  refine Go_if_eq d_M_roundOf_181 (by decide) (fun h => absurd h (by decide)) (fun _ => ?_)
                  refine Go_const d_M_roundOf_184 ?_
                  refine Go_goto d_M_roundOf_185 ?_
                  refine Go_iadd d_M_roundOf_189 ?_
                  refine Go_istore d_M_roundOf_190 rfl sa3 ?_
                  refine Go_iinc d_M_roundOf_191 lg4 rfl sa4 ?_
                  refine Go_goto d_M_roundOf_194 ?_
                  refine fg5 (fg6 (fg7 (ih _ ?_)))
                  rw [rof_S _ _ _ _ h0, hn]
                  first
                    | rw [← bC1 (show rofP (S 22 0) r v i by unfold rofP wasP; omega)]
                    | rw [← bC0 (show ¬ rofP (S 22 0) r v i by unfold rofP wasP; omega)]
            · refine Go_iload d_M_roundOf_94 lg5 ?_
              refine Go_ifeq_d d_M_roundOf_96 (fun h96 => ?_) (fun h96 => ?_)
              · refine Go_const d_M_roundOf_112 ?_
                refine Go_goto d_M_roundOf_113 ?_
                refine Go_istore d_M_roundOf_176 rfl sa7 ?_
                refine Go_iload d_M_roundOf_178 lg3 ?_
                refine Go_iload d_M_roundOf_179 lg7 ?_
                refine Go_if_eq d_M_roundOf_181 (by decide) (fun _ => ?_) (fun h => absurd h (by decide))
                refine Go_const d_M_roundOf_188 ?_
                refine Go_iadd d_M_roundOf_189 ?_
                refine Go_istore d_M_roundOf_190 rfl sa3 ?_
                refine Go_iinc d_M_roundOf_191 lg4 rfl sa4 ?_
                refine Go_goto d_M_roundOf_194 ?_
                refine fg5 (fg6 (fg7 (ih _ ?_)))
                rw [rof_S _ _ _ _ h0, hn]
                first
                  | rw [← bC1 (show rofP (S 22 0) r v i by unfold rofP wasP; omega)]
                  | rw [← bC0 (show ¬ rofP (S 22 0) r v i by unfold rofP wasP; omega)]
              · refine Go_aload d_M_roundOf_99 lg0 ⟨_, rfl⟩ ?_
                refine Go_iload d_M_roundOf_100 lg4 ?_
                refine Go_V1p d_M_roundOf_102 kM (c_M_isOwn _ (by omega) hr) (Nat.le_of_ble_eq_true rfl) ?_
                refine Go_ifne_d d_M_roundOf_105 (fun h105 => ?_) (fun h105 => ?_)
                · refine Go_const d_M_roundOf_112 ?_
                  refine Go_goto d_M_roundOf_113 ?_
                  refine Go_istore d_M_roundOf_176 rfl sa7 ?_
                  refine Go_iload d_M_roundOf_178 lg3 ?_
                  refine Go_iload d_M_roundOf_179 lg7 ?_
                  refine Go_if_eq d_M_roundOf_181 (by decide) (fun _ => ?_) (fun h => absurd h (by decide))
                  refine Go_const d_M_roundOf_188 ?_
                  refine Go_iadd d_M_roundOf_189 ?_
                  refine Go_istore d_M_roundOf_190 rfl sa3 ?_
                  refine Go_iinc d_M_roundOf_191 lg4 rfl sa4 ?_
                  refine Go_goto d_M_roundOf_194 ?_
                  refine fg5 (fg6 (fg7 (ih _ ?_)))
                  rw [rof_S _ _ _ _ h0, hn]
                  first
                    | rw [← bC1 (show rofP (S 22 0) r v i by unfold rofP wasP; omega)]
                    | rw [← bC0 (show ¬ rofP (S 22 0) r v i by unfold rofP wasP; omega)]
                · refine Go_const d_M_roundOf_108 ?_
                  refine Go_goto d_M_roundOf_109 ?_
                  refine Go_istore d_M_roundOf_176 rfl sa7 ?_
                  refine Go_iload d_M_roundOf_178 lg3 ?_
                  refine Go_iload d_M_roundOf_179 lg7 ?_
                  refine Go_if_eq d_M_roundOf_181 (by decide) (fun h => absurd h (by decide)) (fun _ => ?_)
                  refine Go_const d_M_roundOf_184 ?_
                  refine Go_goto d_M_roundOf_185 ?_
                  refine Go_iadd d_M_roundOf_189 ?_
                  refine Go_istore d_M_roundOf_190 rfl sa3 ?_
                  refine Go_iinc d_M_roundOf_191 lg4 rfl sa4 ?_
                  refine Go_goto d_M_roundOf_194 ?_
                  refine fg5 (fg6 (fg7 (ih _ ?_)))
                  rw [rof_S _ _ _ _ h0, hn]
                  first
                    | rw [← bC1 (show rofP (S 22 0) r v i by unfold rofP wasP; omega)]
                    | rw [← bC0 (show ¬ rofP (S 22 0) r v i by unfold rofP wasP; omega)]
          · refine Go_iload d_M_roundOf_67 lg6 ?_
            refine Go_if_eq d_M_roundOf_69 (by decide) (fun h => absurd h (by decide)) (fun _ => ?_)
            refine Go_aload d_M_roundOf_72 lg0 ⟨_, rfl⟩ ?_
            refine Go_iload d_M_roundOf_73 lg4 ?_
            refine Go_V1p d_M_roundOf_75 kM (c_M_isOwn _ (by omega) hr) (Nat.le_of_ble_eq_true rfl) ?_
            refine Go_ifeq_d d_M_roundOf_78 (fun h78 => ?_) (fun h78 => ?_)
            · refine Go_const d_M_roundOf_85 ?_
              refine Go_goto d_M_roundOf_86 ?_
              refine Go_istore d_M_roundOf_176 rfl sa7 ?_
              refine Go_iload d_M_roundOf_178 lg3 ?_
              refine Go_iload d_M_roundOf_179 lg7 ?_
              refine Go_if_eq d_M_roundOf_181 (by decide) (fun _ => ?_) (fun h => absurd h (by decide))
              refine Go_const d_M_roundOf_188 ?_
              refine Go_iadd d_M_roundOf_189 ?_
              refine Go_istore d_M_roundOf_190 rfl sa3 ?_
              refine Go_iinc d_M_roundOf_191 lg4 rfl sa4 ?_
              refine Go_goto d_M_roundOf_194 ?_
              refine fg5 (fg6 (fg7 (ih _ ?_)))
              rw [rof_S _ _ _ _ h0, hn]
              first
                | rw [← bC1 (show rofP (S 22 0) r v i by unfold rofP wasP; omega)]
                | rw [← bC0 (show ¬ rofP (S 22 0) r v i by unfold rofP wasP; omega)]
            · refine Go_const d_M_roundOf_81 ?_
              refine Go_goto d_M_roundOf_82 ?_
              refine Go_istore d_M_roundOf_176 rfl sa7 ?_
              refine Go_iload d_M_roundOf_178 lg3 ?_
              refine Go_iload d_M_roundOf_179 lg7 ?_
              refine Go_if_eq d_M_roundOf_181 (by decide) (fun h => absurd h (by decide)) (fun _ => ?_)
              refine Go_const d_M_roundOf_184 ?_
              refine Go_goto d_M_roundOf_185 ?_
              refine Go_iadd d_M_roundOf_189 ?_
              refine Go_istore d_M_roundOf_190 rfl sa3 ?_
              refine Go_iinc d_M_roundOf_191 lg4 rfl sa4 ?_
              refine Go_goto d_M_roundOf_194 ?_
              refine fg5 (fg6 (fg7 (ih _ ?_)))
              rw [rof_S _ _ _ _ h0, hn]
              first
                | rw [← bC1 (show rofP (S 22 0) r v i by unfold rofP wasP; omega)]
                | rw [← bC0 (show ¬ rofP (S 22 0) r v i by unfold rofP wasP; omega)]
        · refine Go_iload d_M_roundOf_57 lg6 ?_
          refine Go_goto d_M_roundOf_59 ?_
          refine Go_istore d_M_roundOf_176 rfl sa7 ?_
          refine Go_iload d_M_roundOf_178 lg3 ?_
          refine Go_iload d_M_roundOf_179 lg7 ?_
          refine Go_if_eq d_M_roundOf_181 (by decide) (fun h => absurd h (by decide)) (fun _ => ?_)
          refine Go_const d_M_roundOf_184 ?_
          refine Go_goto d_M_roundOf_185 ?_
          refine Go_iadd d_M_roundOf_189 ?_
          refine Go_istore d_M_roundOf_190 rfl sa3 ?_
          refine Go_iinc d_M_roundOf_191 lg4 rfl sa4 ?_
          refine Go_goto d_M_roundOf_194 ?_
          refine fg5 (fg6 (fg7 (ih _ ?_)))
          rw [rof_S _ _ _ _ h0, hn]
          first
            | rw [← bC1 (show rofP (S 22 0) r v i by unfold rofP wasP; omega)]
            | rw [← bC0 (show ¬ rofP (S 22 0) r v i by unfold rofP wasP; omega)]
      · refine Go_iload d_M_roundOf_47 lg5 ?_
        refine Go_goto d_M_roundOf_49 ?_
        refine Go_istore d_M_roundOf_176 rfl sa7 ?_
        refine Go_iload d_M_roundOf_178 lg3 ?_
        refine Go_iload d_M_roundOf_179 lg7 ?_
        refine Go_ifeq_d d_M_roundOf_181 (fun h181 => ?_) (fun h181 => ?_)
        · refine Go_const d_M_roundOf_188 ?_
          refine Go_iadd d_M_roundOf_189 ?_
          refine Go_istore d_M_roundOf_190 rfl sa3 ?_
          refine Go_iinc d_M_roundOf_191 lg4 rfl sa4 ?_
          refine Go_goto d_M_roundOf_194 ?_
          refine fg5 (fg6 (fg7 (ih _ ?_)))
          rw [rof_S _ _ _ _ h0, hn]
          first
            | rw [← bC1 (show rofP (S 22 0) r v i by unfold rofP wasP; omega)]
            | rw [← bC0 (show ¬ rofP (S 22 0) r v i by unfold rofP wasP; omega)]
        · refine Go_const d_M_roundOf_184 ?_
          refine Go_goto d_M_roundOf_185 ?_
          refine Go_iadd d_M_roundOf_189 ?_
          refine Go_istore d_M_roundOf_190 rfl sa3 ?_
          refine Go_iinc d_M_roundOf_191 lg4 rfl sa4 ?_
          refine Go_goto d_M_roundOf_194 ?_
          refine fg5 (fg6 (fg7 (ih _ ?_)))
          rw [rof_S _ _ _ _ h0, hn]
          first
            | rw [← bC1 (show rofP (S 22 0) r v i by unfold rofP wasP; omega)]
            | rw [← bC0 (show ¬ rofP (S 22 0) r v i by unfold rofP wasP; omega)]
theorem c_M_round (r v : Int) (hr0 : -2147483648 ≤ r ∧ r < 2147483648) (hv : -2147483648 ≤ v ∧ v < 2147483648) (hm : 0 ≤ S 22 0 5 ∧ S 22 0 5 ≤ 79) (hn : 0 ≤ S 22 0 6 ∧ S 22 0 6 ≤ 12) (hr : ∀ k, -2147483648 ≤ S 22 0 k ∧ S 22 0 k < 2147483648) : Fn G k_M_round [oR G 22, vI r, vI v] S (PV (vI (if (0 ≤ r ∧ r < S 22 0 6) ∧ 0 ≤ v ∧ v ≤ 5 then rof (S 22 0) r v (S 22 0 5).toNat else -1)) S) := by
  refine Fn.of [some (oR G 22), some (vI r), some (vI v)] 0 rfl (by decide +kernel) rfl (Nat.le_of_ble_eq_true rfl) (by decide) ?_
  refine Go_aload d_M_round_0 lg0 ⟨_, rfl⟩ ?_
  refine Go_iload d_M_round_1 lg1 ?_
  refine Go_V1p d_M_round_2 kM (c_M_isRound _ (by omega) (by omega)) (Nat.le_of_ble_eq_true rfl) ?_
  refine Go_ifeq_d d_M_round_5 (fun h5 => ?_) (fun h5 => ?_)
  · refine Go_const d_M_round_29 ?_
    exact Go_iretV d_M_round_30 (by first | rw [if_pos (by omega)] | rw [if_neg (by omega)])
  · refine Go_iload d_M_round_8 lg2 ?_
    refine Go_i2l d_M_round_9 (by first | omega | exact hr _) ?_
    refine Go_lconst d_M_round_10 ?_
    refine Go_lconst d_M_round_11 ?_
    refine Go_S3p d_M_round_14 (c_M_in _ _ _ (by omega) (by omega) (by omega)) (Nat.le_of_ble_eq_true rfl) ?_
    refine Go_ifeq_d d_M_round_17 (fun h17 => ?_) (fun h17 => ?_)
    · refine Go_const d_M_round_29 ?_
      exact Go_iretV d_M_round_30 (by first | rw [if_pos (by omega)] | rw [if_neg (by omega)])
    · refine Go_aload d_M_round_20 lg0 ⟨_, rfl⟩ ?_
      refine Go_iload d_M_round_21 lg1 ?_
      refine Go_iload d_M_round_22 lg2 ?_
      refine Go_V2p d_M_round_23 kM (c_M_roundOf _ _ (by omega) (by omega) (by omega) hr) (Nat.le_of_ble_eq_true rfl) ?_
      refine Go_goto d_M_round_26 ?_
      exact Go_iretV d_M_round_30 (by first | rw [if_pos (by omega)] | rw [if_neg (by omega)])
theorem c_M_letterOut (r k : Int) (hr0 : -2147483648 ≤ r ∧ r < 2147483648) (hk : -2147483648 ≤ k ∧ k < 2147483648) (hm : 0 ≤ S 22 0 5 ∧ S 22 0 5 ≤ 79) (hr : ∀ k, -2147483648 ≤ S 22 0 k ∧ S 22 0 k < 2147483648) : Fn G k_M_letterOut [oR G 22, vI r, vI k] S (PV (vI (lout (S 22 0) r k (S 22 0 5).toNat)) S) := by
  refine Fn.of [some (oR G 22), some (vI r), some (vI k), none, none] 2 rfl (by decide +kernel) rfl (Nat.le_of_ble_eq_true rfl) (by decide) ?_

  have loop := loopI (fun i => ∀ n : Int, n = lout (S 22 0) r k i.toNat → Go G k_M_letterOut 6 [some (oR G 22), some (vI r), some (vI k), some (vI n), some (vI i)] [] S (PV (vI (lout (S 22 0) r k (S 22 0 5).toNat)) S)) (S 22 0 5) ?_ ?_
  refine Go_const d_M_letterOut_0 ?_
  refine Go_istore d_M_letterOut_2 rfl sa3 ?_
  refine Go_const d_M_letterOut_3 ?_
  refine Go_istore d_M_letterOut_4 rfl sa4 ?_
  exact loop 0 (by omega) (by omega) _ rfl
  · intro n hn
    refine Go_iload d_M_letterOut_6 lg4 ?_
    refine Go_aload d_M_letterOut_8 lg0 ⟨_, rfl⟩ ?_
    refine Go_get d_M_letterOut_9 fm_0 ?_
    refine Go_const d_M_letterOut_12 ?_
    refine Go_ialdC (k0 := 5) d_M_letterOut_13 am_0 rfl (by decide) ?_
    refine Go_icmp_ge d_M_letterOut_14 (by first | omega | exact hr _) (by first | omega | exact hr _) (fun h14 => ?_) (fun h14 => absurd h14 (by omega))
    refine Go_iload d_M_letterOut_52 lg3 ?_
    exact Go_iretV d_M_letterOut_53 hn
  · intro i h0 h1 ih n hn
    refine Go_iload d_M_letterOut_6 lg4 ?_
    refine Go_aload d_M_letterOut_8 lg0 ⟨_, rfl⟩ ?_
    refine Go_get d_M_letterOut_9 fm_0 ?_
    refine Go_const d_M_letterOut_12 ?_
    refine Go_ialdC (k0 := 5) d_M_letterOut_13 am_0 rfl (by decide) ?_
    refine Go_icmp_ge d_M_letterOut_14 (by first | omega | exact hr _) (by first | omega | exact hr _) (fun h14 => absurd h14 (by omega)) (fun h14 => ?_)
    refine Go_aload d_M_letterOut_17 lg0 ⟨_, rfl⟩ ?_
    refine Go_iload d_M_letterOut_18 lg4 ?_
    refine Go_const d_M_letterOut_20 ?_
    refine Go_V2p d_M_letterOut_21 kM (c_M_of _ _ (by omega)) (Nat.le_of_ble_eq_true rfl) ?_
    refine Go_iload d_M_letterOut_24 lg1 ?_
    refine Go_icmp_ne d_M_letterOut_25 (by first | omega | exact hr _) (by first | omega | exact hr _) (fun h25 => ?_) (fun h25 => ?_)
    · refine Go_iload d_M_letterOut_44 lg3 ?_
      refine Go_istore d_M_letterOut_45 rfl sa3 ?_
      refine Go_iinc d_M_letterOut_46 lg4 rfl sa4 ?_
      refine Go_goto d_M_letterOut_49 ?_
      exact ih _ (by rw [lout_S _ _ _ _ h0]; first | rw [if_pos (by omega)] | rw [if_neg (by omega)]; try exact hn)
    · refine Go_aload d_M_letterOut_28 lg0 ⟨_, rfl⟩ ?_
      refine Go_iload d_M_letterOut_29 lg4 ?_
      refine Go_const d_M_letterOut_31 ?_
      refine Go_V2p d_M_letterOut_32 kM (c_M_of _ _ (by omega)) (Nat.le_of_ble_eq_true rfl) ?_
      refine Go_iload d_M_letterOut_35 lg2 ?_
      refine Go_icmp_ne d_M_letterOut_36 (by first | omega | exact hr _) (by first | omega | exact hr _) (fun h36 => ?_) (fun h36 => ?_)
      · refine Go_iload d_M_letterOut_44 lg3 ?_
        refine Go_istore d_M_letterOut_45 rfl sa3 ?_
        refine Go_iinc d_M_letterOut_46 lg4 rfl sa4 ?_
        refine Go_goto d_M_letterOut_49 ?_
        exact ih _ (by rw [lout_S _ _ _ _ h0]; first | rw [if_pos (by omega)] | rw [if_neg (by omega)]; try exact hn)
      · refine Go_iload d_M_letterOut_39 lg4 ?_
        refine Go_goto d_M_letterOut_41 ?_
        refine Go_istore d_M_letterOut_45 rfl sa3 ?_
        refine Go_iinc d_M_letterOut_46 lg4 rfl sa4 ?_
        refine Go_goto d_M_letterOut_49 ?_
        exact ih _ (by rw [lout_S _ _ _ _ h0]; first | rw [if_pos (by omega)] | rw [if_neg (by omega)]; try exact hn)
theorem c_M_undo (hu : 0 ≤ S 22 8 0 ∧ S 22 8 0 ≤ 6) : Fn G k_M_undo [oR G 22] S (PI (fun z S1 => (S 22 8 0 = 0 ∧ z = -4 ∧ S1 = S) ∨ (S 22 8 0 ≠ 0 ∧ z = S 22 8 0 - 1 ∧ S1 = sR (st3 S 22 8 0 (S 22 8 0 - 1)) 22 0 (cpR (S 22 0) (fun k => S 22 7 ((402 * (S 22 8 0 - 1)).toNat + k)) 0 402)))) := by
  refine Fn.of [some (oR G 22), none] 1 rfl (by decide +kernel) rfl (Nat.le_of_ble_eq_true rfl) (by decide) ?_

  have loop := loopI (fun i => S 22 8 0 ≠ 0 → ∀ S1, S1 = sR (st3 S 22 8 0 (S 22 8 0 - 1)) 22 0 (cpR (S 22 0) (fun k => S 22 7 ((402 * (S 22 8 0 - 1)).toNat + k)) 0 i.toNat) → Go G k_M_undo 22 [some (oR G 22), some (vI i)] [] S1 (PI (fun z S1 => (S 22 8 0 = 0 ∧ z = -4 ∧ S1 = S) ∨ (S 22 8 0 ≠ 0 ∧ z = S 22 8 0 - 1 ∧ S1 = sR (st3 S 22 8 0 (S 22 8 0 - 1)) 22 0 (cpR (S 22 0) (fun k => S 22 7 ((402 * (S 22 8 0 - 1)).toNat + k)) 0 402))))) 402 ?_ ?_
  refine Go_aload d_M_undo_0 lg0 ⟨_, rfl⟩ ?_
  refine Go_get d_M_undo_1 fm_8 ?_
  refine Go_if_ne d_M_undo_4 (by omega) (fun h4 => ?_) (fun h4 => ?_)
  · refine Go_aload d_M_undo_10 lg0 ⟨_, rfl⟩ ?_
    refine Go_dup d_M_undo_11 rfl ?_
    refine Go_get d_M_undo_12 fm_8 ?_
    refine Go_const d_M_undo_15 ?_
    refine Go_isub d_M_undo_16 ?_
    refine Go_put d_M_undo_17 (wm_8 _) rfl rfl ?_
    refine Go_const d_M_undo_20 ?_
    refine Go_istore d_M_undo_21 rfl sa1 ?_
    refine loop 0 (by omega) (by omega) h4 _ ?_
    have e : (st3 S 22 8 0 (S 22 8 0 - 1)) 22 0 = S 22 0 := by funext i; exact st3_j (by decide)
    rw [show (0 : Int).toNat = 0 from rfl, cpR_0, ← e, sR_id]
  · refine Go_const d_M_undo_7 ?_
    exact Go_iretI d_M_undo_9 (Or.inl ⟨h4, rfl, rfl⟩)
  · intro hz S1 hS1
    have e8 : S1 22 8 0 = S 22 8 0 - 1 := by rw [hS1, sR_ji (by decide), st3_s]
    refine Go_iload d_M_undo_22 lg1 ?_
    refine Go_const d_M_undo_23 ?_
    refine Go_icmp_ge d_M_undo_26 (by omega) (by omega) (fun h26 => ?_) (fun h26 => absurd h26 (by omega))
    refine Go_aload d_M_undo_56 lg0 ⟨_, rfl⟩ ?_
    refine Go_get d_M_undo_57 fm_8 ?_
    exact Go_iretI d_M_undo_60 (Or.inr ⟨hz, e8, hS1⟩)
  · intro i h0 h1 ih hz S1 hS1
    have e8 : S1 22 8 0 = S 22 8 0 - 1 := by rw [hS1, sR_ji (by decide), st3_s]
    have e7 : ∀ k, S1 22 7 k = S 22 7 k := fun k => by rw [hS1, sR_ji (by decide), st3_j (by decide)]
    refine Go_iload d_M_undo_22 lg1 ?_
    refine Go_const d_M_undo_23 ?_
    refine Go_icmp_ge d_M_undo_26 (by omega) (by omega) (fun h26 => absurd h26 (by omega)) (fun h26 => ?_)
    refine Go_aload d_M_undo_29 lg0 ⟨_, rfl⟩ ?_
    refine Go_get d_M_undo_30 fm_0 ?_
    refine Go_iload d_M_undo_33 lg1 ?_
    refine Go_aload d_M_undo_34 lg0 ⟨_, rfl⟩ ?_
    refine Go_get d_M_undo_35 fm_7 ?_
    refine Go_const d_M_undo_38 ?_
    refine Go_aload d_M_undo_41 lg0 ⟨_, rfl⟩ ?_
    refine Go_get d_M_undo_42 fm_8 ?_
    refine Go_imul d_M_undo_45 ?_
    refine Go_iload d_M_undo_46 lg1 ?_
    refine Go_iadd d_M_undo_47 ?_
    refine Go_iald d_M_undo_48 am_7 (by omega) ?_
    refine Go_iast d_M_undo_49 am_0 (by omega) ?_
    refine Go_iinc d_M_undo_50 lg1 rfl sa1 ?_
    refine Go_goto d_M_undo_53 ?_
    refine ih hz _ ?_
    have := cpR_S (S 22 0) (fun k => S 22 7 ((402 * (S 22 8 0 - 1)).toNat + k)) 0 i.toNat
    rw [e8, e7, hS1, st3_sR2, show (402 * (S 22 8 0 - 1) + i).toNat = (402 * (S 22 8 0 - 1)).toNat + i.toNat by omega, show (i + 1).toNat = i.toNat + 1 by omega, ← this, Nat.zero_add]
theorem c_M_seed (v : Int) (hv : -2147483648 ≤ v ∧ v < 2147483648) : Fn G k_M_seed [oR G 22, vI v] S (PI (fun z S1 => (v < 0 ∧ z = -1 ∧ S1 = S) ∨ (0 ≤ v ∧ z = S 22 0 4 ∧ S1 = sR S 22 0 (up (S 22 0) 4 v)))) := by
  refine Fn.of [some (oR G 22), some (vI v), none] 1 rfl (by decide +kernel) rfl (Nat.le_of_ble_eq_true rfl) (by decide) ?_
  refine Go_iload d_M_seed_0 lg1 ?_
  refine Go_if_ge d_M_seed_1 (by first | omega | exact hr _) (fun h1 => ?_) (fun h1 => ?_)
  · refine Go_aload d_M_seed_6 lg0 ⟨_, rfl⟩ ?_
    refine Go_get d_M_seed_7 fm_0 ?_
    refine Go_const d_M_seed_10 ?_
    refine Go_ialdC (k0 := 4) d_M_seed_11 am_0 rfl (by decide) ?_
    refine Go_istore d_M_seed_12 rfl sa2 ?_
    refine Go_aload d_M_seed_13 lg0 ⟨_, rfl⟩ ?_
    refine Go_get d_M_seed_14 fm_0 ?_
    refine Go_const d_M_seed_17 ?_
    refine Go_iload d_M_seed_18 lg1 ?_
    refine Go_iastC (k0 := 4) d_M_seed_19 am_0 rfl (by decide) ?_
    refine Go_iload d_M_seed_20 lg2 ?_
    exact Go_iretI d_M_seed_21 (Or.inr ⟨h1, rfl, by rw [st3_sR]⟩)
  · refine Go_const d_M_seed_4 ?_
    exact Go_iretI d_M_seed_5 (Or.inl ⟨h1, rfl, rfl⟩)
def countV (S : St) (v : Int) : Int := if 0 ≤ v ∧ v ≤ 3 then S 22 0 v.toNat else if v = 4 then cnt (S 22 0) (S 22 0 5).toNat else if v = 5 then S 22 0 5 else if v = 6 then S 22 0 6 else if v = 7 then S 22 8 0 else -1
theorem c_M_count (v : Int) (hv : -2147483648 ≤ v ∧ v < 2147483648) (hm : 0 ≤ S 22 0 5 ∧ S 22 0 5 ≤ 79) (hr : ∀ k, -2147483648 ≤ S 22 0 k ∧ S 22 0 k < 2147483648) : Fn G k_M_count [oR G 22, vI v] S (PV (vI (countV S v)) S) := by
  have hsw0 : v = 4 ∨ v = 5 ∨ v = 6 ∨ v = 7 ∨ (v < 4 ∨ 7 < v) := by omega
  refine Fn.of [some (oR G 22), some (vI v)] 0 rfl (by decide +kernel) rfl (Nat.le_of_ble_eq_true rfl) (by decide) ?_
  refine Go_iload d_M_count_0 lg1 ?_
  refine Go_i2l d_M_count_1 (by first | omega | exact hr _) ?_
  refine Go_lconst d_M_count_2 ?_
  refine Go_lconst d_M_count_3 ?_
  refine Go_S3p d_M_count_6 (c_M_in _ _ _ (by omega) (by omega) (by omega)) (Nat.le_of_ble_eq_true rfl) ?_
  refine Go_ifeq_d d_M_count_9 (fun h9 => ?_) (fun h9 => ?_)
  · refine Go_iload d_M_count_19 lg1 ?_
    rcases hsw0 with rfl | rfl | rfl | rfl | hsw
    · refine Go_tswIn (t := 52) d_M_count_20 (by decide) (by decide) (by decide) rfl (by decide) ?_
      refine Go_aload d_M_count_52 lg0 ⟨_, rfl⟩ ?_
      refine Go_V0p d_M_count_53 kM (c_M_standing (by omega) hr) (Nat.le_of_ble_eq_true rfl) ?_
      exact Go_iretV d_M_count_56 (by unfold countV; rw [if_neg (by omega)]; first | rfl | (rw [if_neg (by omega), if_neg (by omega), if_neg (by omega), if_neg (by omega)]))
    · refine Go_tswIn (t := 57) d_M_count_20 (by decide) (by decide) (by decide) rfl (by decide) ?_
      refine Go_aload d_M_count_57 lg0 ⟨_, rfl⟩ ?_
      refine Go_get d_M_count_58 fm_0 ?_
      refine Go_const d_M_count_61 ?_
      refine Go_ialdC (k0 := 5) d_M_count_62 am_0 rfl (by decide) ?_
      exact Go_iretV d_M_count_63 (by unfold countV; rw [if_neg (by omega)]; first | rfl | (rw [if_neg (by omega), if_neg (by omega), if_neg (by omega), if_neg (by omega)]))
    · refine Go_tswIn (t := 64) d_M_count_20 (by decide) (by decide) (by decide) rfl (by decide) ?_
      refine Go_aload d_M_count_64 lg0 ⟨_, rfl⟩ ?_
      refine Go_get d_M_count_65 fm_0 ?_
      refine Go_const d_M_count_68 ?_
      refine Go_ialdC (k0 := 6) d_M_count_70 am_0 rfl (by decide) ?_
      exact Go_iretV d_M_count_71 (by unfold countV; rw [if_neg (by omega)]; first | rfl | (rw [if_neg (by omega), if_neg (by omega), if_neg (by omega), if_neg (by omega)]))
    · refine Go_tswIn (t := 72) d_M_count_20 (by decide) (by decide) (by decide) rfl (by decide) ?_
      refine Go_aload d_M_count_72 lg0 ⟨_, rfl⟩ ?_
      refine Go_get d_M_count_73 fm_8 ?_
      exact Go_iretV d_M_count_76 (by unfold countV; rw [if_neg (by omega)]; first | rfl | (rw [if_neg (by omega), if_neg (by omega), if_neg (by omega), if_neg (by omega)]))
    · refine Go_tswOut (t := 77) d_M_count_20 (by first | omega | exact hr _) hsw (by decide) ?_
      refine Go_const d_M_count_77 ?_
      exact Go_iretV d_M_count_78 (by unfold countV; rw [if_neg (by omega)]; first | rfl | (rw [if_neg (by omega), if_neg (by omega), if_neg (by omega), if_neg (by omega)]))
  · refine Go_aload d_M_count_12 lg0 ⟨_, rfl⟩ ?_
    refine Go_get d_M_count_13 fm_0 ?_
    refine Go_iload d_M_count_16 lg1 ?_
    refine Go_iald d_M_count_17 am_0 (by first | omega | exact hr _) ?_
    exact Go_iretV d_M_count_18 (by unfold countV; rw [if_pos (by omega)])
theorem c_M_blend (h : NR (S 22 0)) : Fn G k_M_blend [oR G 22] S (PV (vI (blendV (S 22 0))) S) := by
  obtain ⟨hr, i0, i1, i2, i3, i4, i5, i6⟩ := id h
  have hc0 := cnt_0 (S 22 0) (S 22 0 5).toNat
  refine Fn.of [some (oR G 22), none, none] 2 rfl (by decide +kernel) rfl (Nat.le_of_ble_eq_true rfl) (by decide) ?_
  refine Go_aload d_M_blend_0 lg0 ⟨_, rfl⟩ ?_
  refine Go_get d_M_blend_1 fm_0 ?_
  refine Go_const d_M_blend_4 ?_
  refine Go_ialdC (k0 := 0) d_M_blend_5 am_0 rfl (by decide) ?_
  refine Go_if_ne d_M_blend_6 (by first | omega | exact hr _) (fun h6 => ?_) (fun h6 => ?_)
  · refine Go_const d_M_blend_18 ?_
    exact Go_iretV d_M_blend_20 (by unfold blendV; (repeat' split) <;> omega)
  · refine Go_aload d_M_blend_9 lg0 ⟨_, rfl⟩ ?_
    refine Go_get d_M_blend_10 fm_0 ?_
    refine Go_const d_M_blend_13 ?_
    refine Go_ialdC (k0 := 3) d_M_blend_14 am_0 rfl (by decide) ?_
    refine Go_if_le d_M_blend_15 (by first | omega | exact hr _) (fun h15 => ?_) (fun h15 => ?_)
    · refine Go_aload d_M_blend_21 lg0 ⟨_, rfl⟩ ?_
      refine Go_V0p d_M_blend_22 kM (c_M_standing (by omega) hr) (Nat.le_of_ble_eq_true rfl) ?_
      refine Go_istore d_M_blend_25 rfl sa1 ?_
      refine Go_aload d_M_blend_26 lg0 ⟨_, rfl⟩ ?_
      refine Go_get d_M_blend_27 fm_0 ?_
      refine Go_const d_M_blend_30 ?_
      refine Go_ialdC (k0 := 1) d_M_blend_31 am_0 rfl (by decide) ?_
      refine Go_iload d_M_blend_32 lg1 ?_
      refine Go_isub d_M_blend_33 ?_
      refine Go_istore d_M_blend_34 rfl sa2 ?_
      refine Go_iload d_M_blend_35 lg1 ?_
      refine Go_if_ne d_M_blend_36 (by first | omega | exact hr _) (fun h36 => ?_) (fun h36 => ?_)
      · refine Go_iload d_M_blend_43 lg2 ?_
        refine Go_const d_M_blend_44 ?_
        refine Go_icmp_ge d_M_blend_45 (by first | omega | exact hr _) (by first | omega | exact hr _) (fun h45 => ?_) (fun h45 => ?_)
        · refine Go_iload d_M_blend_52 lg2 ?_
          refine Go_aload d_M_blend_53 lg0 ⟨_, rfl⟩ ?_
          refine Go_get d_M_blend_54 fm_0 ?_
          refine Go_const d_M_blend_57 ?_
          refine Go_ialdC (k0 := 1) d_M_blend_58 am_0 rfl (by decide) ?_
          refine Go_iadd d_M_blend_59 ?_
          refine Go_const d_M_blend_60 ?_
          refine Go_isub d_M_blend_61 ?_
          exact Go_iretV d_M_blend_62 (by unfold blendV; (repeat' split) <;> omega)
        · refine Go_const d_M_blend_48 ?_
          refine Go_goto d_M_blend_49 ?_
          refine Go_aload d_M_blend_53 lg0 ⟨_, rfl⟩ ?_
          refine Go_get d_M_blend_54 fm_0 ?_
          refine Go_const d_M_blend_57 ?_
          refine Go_ialdC (k0 := 1) d_M_blend_58 am_0 rfl (by decide) ?_
          refine Go_iadd d_M_blend_59 ?_
          refine Go_const d_M_blend_60 ?_
          refine Go_isub d_M_blend_61 ?_
          exact Go_iretV d_M_blend_62 (by unfold blendV; (repeat' split) <;> omega)
      · refine Go_const d_M_blend_39 ?_
        refine Go_goto d_M_blend_40 ?_
        refine Go_aload d_M_blend_53 lg0 ⟨_, rfl⟩ ?_
        refine Go_get d_M_blend_54 fm_0 ?_
        refine Go_const d_M_blend_57 ?_
        refine Go_ialdC (k0 := 1) d_M_blend_58 am_0 rfl (by decide) ?_
        refine Go_iadd d_M_blend_59 ?_
        refine Go_const d_M_blend_60 ?_
        refine Go_isub d_M_blend_61 ?_
        exact Go_iretV d_M_blend_62 (by unfold blendV; (repeat' split) <;> omega)
    · refine Go_const d_M_blend_18 ?_
      exact Go_iretV d_M_blend_20 (by unfold blendV; (repeat' split) <;> omega)
end Model3
