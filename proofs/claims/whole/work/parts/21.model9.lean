section Model9
variable {G : GT} {S : St}
theorem c_M_isSheet (s : Int) (hs : -2147483648 ≤ s ∧ s < 2147483648) : Fn G k_M_isSheet [vI s] S (PV (vI (bI (0 ≤ s ∧ s ≤ 3))) S) := by
  refine Fn.of [some (vI s)] 0 rfl (by decide +kernel) rfl (Nat.le_of_ble_eq_true rfl) (by decide) ?_
  refine Go_iload d_M_isSheet_0 lg0 ?_
  refine Go_i2l d_M_isSheet_1 (by omega) ?_
  refine Go_lconst d_M_isSheet_2 ?_
  refine Go_lconst d_M_isSheet_3 ?_
  refine Go_S3p d_M_isSheet_6 (c_M_in _ _ _ (by omega) (by omega) (by omega)) (Nat.le_of_ble_eq_true rfl) ?_
  exact Go_zretV d_M_isSheet_9 (by first | exact Or.inl rfl | exact Or.inr rfl | exact @bI_01 _ _) (by first | rfl | exact (bI_pos (by omega)).symm | exact (bI_neg (by omega)).symm)
theorem c_M_cut (v l : Int) (hv : -9223372036854775808 ≤ v ∧ v < 9223372036854775808) (hl : -2147483648 ≤ l ∧ l < 2147483648) : Fn G k_M_cut [vL v, vI l] S (PV (vL (cutV v l)) S) := by
  have a := w8_rg v
  have b := w16_rg v
  have c := w32_rg v
  refine Fn.of [some (vL v), none, some (vI l)] 0 rfl (by decide +kernel) rfl (Nat.le_of_ble_eq_true rfl) (by decide) ?_
  refine Go_iload d_M_cut_0 lg2 ?_
  refine Go_if_ne d_M_cut_1 (by omega) (fun h1 => ?_) (fun h1 => ?_)
  · refine Go_iload d_M_cut_11 lg2 ?_
    refine Go_const d_M_cut_12 ?_
    refine Go_icmp_ne d_M_cut_13 (by omega) (by omega) (fun h13 => ?_) (fun h13 => ?_)
    · refine Go_iload d_M_cut_23 lg2 ?_
      refine Go_const d_M_cut_24 ?_
      refine Go_icmp_ne d_M_cut_25 (by omega) (by omega) (fun h25 => ?_) (fun h25 => ?_)
      · refine Go_lload d_M_cut_34 lg0 ?_
        exact Go_lretV d_M_cut_35 (by unfold cutV; (repeat' split) <;> first | rfl | omega)
      · refine Go_lload d_M_cut_28 lg0 ?_
        refine Go_l2i d_M_cut_29 ?_
        rw [w32_iI v]
        refine Go_i2l d_M_cut_30 (by omega) ?_
        refine Go_goto d_M_cut_31 ?_
        exact Go_lretV d_M_cut_35 (by unfold cutV; (repeat' split) <;> first | rfl | omega)
    · refine Go_lload d_M_cut_16 lg0 ?_
      refine Go_l2i d_M_cut_17 ?_
      refine Go_i2s d_M_cut_18 ?_
      refine Go_i2l d_M_cut_19 (by omega) ?_
      refine Go_goto d_M_cut_20 ?_
      exact Go_lretV d_M_cut_35 (by unfold cutV; (repeat' split) <;> first | rfl | omega)
  · refine Go_lload d_M_cut_4 lg0 ?_
    refine Go_l2i d_M_cut_5 ?_
    refine Go_i2b d_M_cut_6 ?_
    refine Go_i2l d_M_cut_7 (by omega) ?_
    refine Go_goto d_M_cut_8 ?_
    exact Go_lretV d_M_cut_35 (by unfold cutV; (repeat' split) <;> first | rfl | omega)
theorem c_M_sheet (s l n : Int) (hs : -2147483648 ≤ s ∧ s < 2147483648) (hl : -2147483648 ≤ l ∧ l < 2147483648) (hn : -2147483648 ≤ n ∧ n < 2147483648) : Fn G k_M_sheet [oR G 22, vI s, vI l, vI n] S (PI (fun z S1 => (¬ ((0 ≤ s ∧ s ≤ 3) ∧ (0 ≤ l ∧ l ≤ 3) ∧ n ≤ 24) ∧ z = -1 ∧ S1 = S) ∨ (((0 ≤ s ∧ s ≤ 3) ∧ (0 ≤ l ∧ l ≤ 3) ∧ n ≤ 24) ∧ n < 0 ∧ z = -14 ∧ S1 = S) ∨ (((0 ≤ s ∧ s ≤ 3) ∧ (0 ≤ l ∧ l ≤ 3) ∧ n ≤ 24) ∧ 0 ≤ n ∧ z = n ∧ S1 = sR (st3 (st3 S 22 12 s.toNat l) 22 13 s.toNat n) 22 14 (zeroR (S 22 14) (24 * s).toNat 24)))) := by
  refine Fn.of [some (oR G 22), some (vI s), some (vI l), some (vI n), none] 1 rfl (by decide +kernel) rfl (Nat.le_of_ble_eq_true rfl) (by decide) ?_

  have loop := loopI (fun k => ((0 ≤ s ∧ s ≤ 3) ∧ (0 ≤ l ∧ l ≤ 3) ∧ n ≤ 24) → 0 ≤ n → ∀ S1, S1 = sR (st3 (st3 S 22 12 s.toNat l) 22 13 s.toNat n) 22 14 (zeroR (S 22 14) (24 * s).toNat k.toNat) → Go G k_M_sheet 51 [some (oR G 22), some (vI s), some (vI l), some (vI n), some (vI k)] [] S1 (PI (fun z S1 => (¬ ((0 ≤ s ∧ s ≤ 3) ∧ (0 ≤ l ∧ l ≤ 3) ∧ n ≤ 24) ∧ z = -1 ∧ S1 = S) ∨ (((0 ≤ s ∧ s ≤ 3) ∧ (0 ≤ l ∧ l ≤ 3) ∧ n ≤ 24) ∧ n < 0 ∧ z = -14 ∧ S1 = S) ∨ (((0 ≤ s ∧ s ≤ 3) ∧ (0 ≤ l ∧ l ≤ 3) ∧ n ≤ 24) ∧ 0 ≤ n ∧ z = n ∧ S1 = sR (st3 (st3 S 22 12 s.toNat l) 22 13 s.toNat n) 22 14 (zeroR (S 22 14) (24 * s).toNat 24))))) 24 ?_ ?_
  refine Go_iload d_M_sheet_0 lg1 ?_
  refine Go_S1p d_M_sheet_1 (c_M_isSheet _ (by omega)) (Nat.le_of_ble_eq_true rfl) ?_
  refine Go_ifeq_d d_M_sheet_4 (fun h4 => ?_) (fun h4 => ?_)
  · refine Go_const d_M_sheet_25 ?_
    exact Go_iretI d_M_sheet_26 (Or.inl ⟨by omega, rfl, rfl⟩)
  · refine Go_iload d_M_sheet_7 lg2 ?_
    refine Go_i2l d_M_sheet_8 (by omega) ?_
    refine Go_lconst d_M_sheet_9 ?_
    refine Go_lconst d_M_sheet_10 ?_
    refine Go_S3p d_M_sheet_13 (c_M_in _ _ _ (by omega) (by omega) (by omega)) (Nat.le_of_ble_eq_true rfl) ?_
    refine Go_ifeq_d d_M_sheet_16 (fun h16 => ?_) (fun h16 => ?_)
    · refine Go_const d_M_sheet_25 ?_
      exact Go_iretI d_M_sheet_26 (Or.inl ⟨by omega, rfl, rfl⟩)
    · refine Go_iload d_M_sheet_19 lg3 ?_
      refine Go_const d_M_sheet_20 ?_
      refine Go_icmp_le d_M_sheet_22 (by omega) (by omega) (fun h22 => ?_) (fun h22 => ?_)
      · refine Go_iload d_M_sheet_27 lg3 ?_
        refine Go_if_ge d_M_sheet_28 (by omega) (fun h28 => ?_) (fun h28 => ?_)
        · refine Go_aload d_M_sheet_34 lg0 ⟨_, rfl⟩ ?_
          refine Go_get d_M_sheet_35 fm_12 ?_
          refine Go_iload d_M_sheet_38 lg1 ?_
          refine Go_iload d_M_sheet_39 lg2 ?_
          refine Go_iast d_M_sheet_40 am_12 (by omega) ?_
          refine Go_aload d_M_sheet_41 lg0 ⟨_, rfl⟩ ?_
          refine Go_get d_M_sheet_42 fm_13 ?_
          refine Go_iload d_M_sheet_45 lg1 ?_
          refine Go_iload d_M_sheet_46 lg3 ?_
          refine Go_iast d_M_sheet_47 am_13 (by omega) ?_
          refine Go_const d_M_sheet_48 ?_
          refine Go_istore d_M_sheet_49 rfl sa4 ?_
          refine loop 0 (by omega) (by omega) (by omega) (by omega) _ ?_
          have e : (st3 (st3 S 22 12 s.toNat l) 22 13 s.toNat n) 22 14 = S 22 14 := by funext i; rw [st3_j (by decide), st3_j (by decide)]
          rw [show (0 : Int).toNat = 0 from rfl, zeroR_0, ← e, sR_id]
        · refine Go_const d_M_sheet_31 ?_
          exact Go_iretI d_M_sheet_33 (Or.inr (Or.inl ⟨by omega, by omega, rfl, rfl⟩))
      · refine Go_const d_M_sheet_25 ?_
        exact Go_iretI d_M_sheet_26 (Or.inl ⟨by omega, rfl, rfl⟩)
  · intro hok hn0 S1 hS1
    refine Go_iload d_M_sheet_51 lg4 ?_
    refine Go_const d_M_sheet_53 ?_
    refine Go_icmp_ge d_M_sheet_55 (by omega) (by omega) (fun h55 => ?_) (fun h55 => absurd h55 (by omega))
    refine Go_iload d_M_sheet_77 lg3 ?_
    exact Go_iretI d_M_sheet_78 (Or.inr (Or.inr ⟨hok, hn0, rfl, hS1⟩))
  · intro k h0 h1 ih hok hn0 S1 hS1
    refine Go_iload d_M_sheet_51 lg4 ?_
    refine Go_const d_M_sheet_53 ?_
    refine Go_icmp_ge d_M_sheet_55 (by omega) (by omega) (fun h55 => absurd h55 (by omega)) (fun h55 => ?_)
    refine Go_aload d_M_sheet_58 lg0 ⟨_, rfl⟩ ?_
    refine Go_get d_M_sheet_59 fm_14 ?_
    refine Go_const d_M_sheet_62 ?_
    refine Go_iload d_M_sheet_64 lg1 ?_
    refine Go_imul d_M_sheet_65 ?_
    refine Go_iload d_M_sheet_66 lg4 ?_
    refine Go_iadd d_M_sheet_68 ?_
    refine Go_lconst d_M_sheet_69 ?_
    refine Go_last d_M_sheet_70 am_14 (by omega) ?_
    refine Go_iinc d_M_sheet_71 lg4 rfl sa4 ?_
    refine Go_goto d_M_sheet_74 ?_
    refine ih hok hn0 _ ?_
    rw [hS1, st3_sR2, show (24 * s + k).toNat = (24 * s).toNat + k.toNat by omega, zeroR_S, show (k + 1).toNat = k.toNat + 1 by omega]
theorem c_M_drop (s : Int) (hs : -2147483648 ≤ s ∧ s < 2147483648) (h : ShOk S) : Fn G k_M_drop [oR G 22, vI s] S (PI (fun z S1 => (¬ (0 ≤ s ∧ s ≤ 3) ∧ z = -1 ∧ S1 = S) ∨ ((0 ≤ s ∧ s ≤ 3) ∧ S 22 12 s.toNat < 0 ∧ z = -11 ∧ S1 = S) ∨ ((0 ≤ s ∧ s ≤ 3) ∧ 0 ≤ S 22 12 s.toNat ∧ z = S 22 13 s.toNat ∧ S1 = st3 S 22 12 s.toNat (-1)))) := by
  refine Fn.of [some (oR G 22), some (vI s)] 0 rfl (by decide +kernel) rfl (Nat.le_of_ble_eq_true rfl) (by decide) ?_
  refine Go_iload d_M_drop_0 lg1 ?_
  refine Go_S1p d_M_drop_1 (c_M_isSheet _ (by omega)) (Nat.le_of_ble_eq_true rfl) ?_
  refine Go_ifne_d d_M_drop_4 (fun h4 => ?_) (fun h4 => ?_)
  · refine Go_aload d_M_drop_9 lg0 ⟨_, rfl⟩ ?_
    refine Go_get d_M_drop_10 fm_12 ?_
    refine Go_iload d_M_drop_13 lg1 ?_
    refine Go_iald d_M_drop_14 am_12 (by omega) ?_
    refine Go_if_ge d_M_drop_15 (by have := (h.1 s.toNat (by omega)).1; omega) (fun h15 => ?_) (fun h15 => ?_)
    · refine Go_aload d_M_drop_21 lg0 ⟨_, rfl⟩ ?_
      refine Go_get d_M_drop_22 fm_12 ?_
      refine Go_iload d_M_drop_25 lg1 ?_
      refine Go_const d_M_drop_26 ?_
      refine Go_iast d_M_drop_27 am_12 (by omega) ?_
      refine Go_aload d_M_drop_28 lg0 ⟨_, rfl⟩ ?_
      refine Go_get d_M_drop_29 fm_13 ?_
      refine Go_iload d_M_drop_32 lg1 ?_
      refine Go_iald d_M_drop_33 am_13 (by omega) ?_
      rw [st3_j (by decide)]
      exact Go_iretI d_M_drop_34 (Or.inr (Or.inr ⟨h4, h15, rfl, rfl⟩))
    · refine Go_const d_M_drop_18 ?_
      exact Go_iretI d_M_drop_20 (Or.inr (Or.inl ⟨h4, h15, rfl, rfl⟩))
  · refine Go_const d_M_drop_7 ?_
    exact Go_iretI d_M_drop_8 (Or.inl ⟨h4, rfl, rfl⟩)
theorem c_M_why (s l i n : Int) (hs : 0 ≤ s ∧ s ≤ 3) (hl : -2147483648 ≤ l ∧ l < 2147483648) (hi : -2147483648 ≤ i ∧ i < 2147483648) (hn : -2147483648 ≤ n ∧ n < 2147483648) (h : ShOk S) : Fn G k_M_why [oR G 22, vI s, vI l, vI i, vI n] S (PV (vI (whyV (S 22 12) (S 22 13) s l i n)) S) := by
  obtain ⟨a1, a2⟩ := h.1 s.toNat (by omega)
  refine Fn.of [some (oR G 22), some (vI s), some (vI l), some (vI i), some (vI n)] 0 rfl (by decide +kernel) rfl (Nat.le_of_ble_eq_true rfl) (by decide) ?_
  refine Go_aload d_M_why_0 lg0 ⟨_, rfl⟩ ?_
  refine Go_get d_M_why_1 fm_12 ?_
  refine Go_iload d_M_why_4 lg1 ?_
  refine Go_iald d_M_why_5 am_12 (by omega) ?_
  refine Go_if_ge d_M_why_6 (by omega) (fun h6 => ?_) (fun h6 => ?_)
  · refine Go_aload d_M_why_12 lg0 ⟨_, rfl⟩ ?_
    refine Go_get d_M_why_13 fm_12 ?_
    refine Go_iload d_M_why_16 lg1 ?_
    refine Go_iald d_M_why_17 am_12 (by omega) ?_
    refine Go_iload d_M_why_18 lg2 ?_
    refine Go_icmp_eq d_M_why_19 (by omega) (by omega) (fun h19 => ?_) (fun h19 => ?_)
    · refine Go_iload d_M_why_25 lg3 ?_
      refine Go_if_lt d_M_why_26 (by omega) (fun h26 => ?_) (fun h26 => ?_)
      · refine Go_const d_M_why_42 ?_
        refine Go_goto d_M_why_44 ?_
        exact Go_iretV d_M_why_48 (by unfold whyV; (repeat' split) <;> omega)
      · refine Go_iload d_M_why_29 lg4 ?_
        refine Go_aload d_M_why_31 lg0 ⟨_, rfl⟩ ?_
        refine Go_get d_M_why_32 fm_13 ?_
        refine Go_iload d_M_why_35 lg1 ?_
        refine Go_iald d_M_why_36 am_13 (by omega) ?_
        refine Go_iload d_M_why_37 lg3 ?_
        refine Go_isub d_M_why_38 ?_
        refine Go_icmp_le d_M_why_39 (by omega) (by omega) (fun h39 => ?_) (fun h39 => ?_)
        · refine Go_const d_M_why_47 ?_
          exact Go_iretV d_M_why_48 (by unfold whyV; (repeat' split) <;> omega)
        · refine Go_const d_M_why_42 ?_
          refine Go_goto d_M_why_44 ?_
          exact Go_iretV d_M_why_48 (by unfold whyV; (repeat' split) <;> omega)
    · refine Go_const d_M_why_22 ?_
      exact Go_iretV d_M_why_24 (by unfold whyV; (repeat' split) <;> omega)
  · refine Go_const d_M_why_9 ?_
    exact Go_iretV d_M_why_11 (by unfold whyV; (repeat' split) <;> omega)
theorem whyV_c (LN SZ : Row) (s l i n : Int) : whyV LN SZ s l i n = 0 ∨ whyV LN SZ s l i n = -11 ∨ whyV LN SZ s l i n = -12 ∨ whyV LN SZ s l i n = -13 := by unfold whyV; (repeat' split) <;> omega
theorem whyV_0 {LN SZ : Row} {s l i n : Int} (h : 0 ≤ whyV LN SZ s l i n) : 0 ≤ LN s.toNat ∧ LN s.toNat = l ∧ 0 ≤ i ∧ n ≤ SZ s.toNat - i := by unfold whyV at h; (repeat' split at h) <;> omega
theorem c_M_item (s l i v : Int) (hs : -2147483648 ≤ s ∧ s < 2147483648) (hl : -2147483648 ≤ l ∧ l < 2147483648) (hi : -2147483648 ≤ i ∧ i < 2147483648) (hv : -9223372036854775808 ≤ v ∧ v < 9223372036854775808) (h : ShOk S) : Fn G k_M_item [oR G 22, vI s, vI l, vI i, vL v] S (PI (fun z S1 => (¬ ((0 ≤ s ∧ s ≤ 3) ∧ 0 ≤ l ∧ l ≤ 3) ∧ z = -1 ∧ S1 = S) ∨ (((0 ≤ s ∧ s ≤ 3) ∧ 0 ≤ l ∧ l ≤ 3) ∧ whyV (S 22 12) (S 22 13) s l i 1 < 0 ∧ z = whyV (S 22 12) (S 22 13) s l i 1 ∧ S1 = S) ∨ (((0 ≤ s ∧ s ≤ 3) ∧ 0 ≤ l ∧ l ≤ 3) ∧ 0 ≤ whyV (S 22 12) (S 22 13) s l i 1 ∧ z = 1 ∧ S1 = st3 S 22 14 (24 * s + i).toNat (cutV v l)))) := by
  have hc := whyV_c (S 22 12) (S 22 13) s l i 1
  refine Fn.of [some (oR G 22), some (vI s), some (vI l), some (vI i), some (vL v), none, none] 1 rfl (by decide +kernel) rfl (Nat.le_of_ble_eq_true rfl) (by decide) ?_
  refine Go_iload d_M_item_0 lg1 ?_
  refine Go_S1p d_M_item_1 (c_M_isSheet _ (by omega)) (Nat.le_of_ble_eq_true rfl) ?_
  refine Go_ifeq_d d_M_item_4 (fun h4 => ?_) (fun h4 => ?_)
  · refine Go_const d_M_item_19 ?_
    exact Go_iretI d_M_item_20 (Or.inl ⟨by omega, rfl, rfl⟩)
  · refine Go_iload d_M_item_7 lg2 ?_
    refine Go_i2l d_M_item_8 (by omega) ?_
    refine Go_lconst d_M_item_9 ?_
    refine Go_lconst d_M_item_10 ?_
    refine Go_S3p d_M_item_13 (c_M_in _ _ _ (by omega) (by omega) (by omega)) (Nat.le_of_ble_eq_true rfl) ?_
    refine Go_ifne_d d_M_item_16 (fun h16 => ?_) (fun h16 => ?_)
    · refine Go_aload d_M_item_21 lg0 ⟨_, rfl⟩ ?_
      refine Go_iload d_M_item_22 lg1 ?_
      refine Go_iload d_M_item_23 lg2 ?_
      refine Go_iload d_M_item_24 lg3 ?_
      refine Go_const d_M_item_25 ?_
      refine Go_V4p d_M_item_26 kM (c_M_why _ _ _ _ (by omega) (by omega) (by omega) (by omega) h) (Nat.le_of_ble_eq_true rfl) ?_
      refine Go_istore d_M_item_29 rfl sa6 ?_
      refine Go_iload d_M_item_31 lg6 ?_
      refine Go_if_ge d_M_item_33 (by omega) (fun h33 => ?_) (fun h33 => ?_)
      · refine Go_aload d_M_item_39 lg0 ⟨_, rfl⟩ ?_
        refine Go_get d_M_item_40 fm_14 ?_
        refine Go_const d_M_item_43 ?_
        refine Go_iload d_M_item_45 lg1 ?_
        refine Go_imul d_M_item_46 ?_
        refine Go_iload d_M_item_47 lg3 ?_
        refine Go_iadd d_M_item_48 ?_
        refine Go_lload d_M_item_49 lg4 ?_
        refine Go_iload d_M_item_51 lg2 ?_
        refine Go_S2p d_M_item_52 (c_M_cut _ _ (by omega) (by omega)) (Nat.le_of_ble_eq_true rfl) ?_
        refine Go_last d_M_item_55 am_14 (by have := whyV_0 h33; have := (h.1 s.toNat (by omega)).2; omega) ?_
        refine Go_const d_M_item_56 ?_
        exact Go_iretI d_M_item_57 (Or.inr (Or.inr ⟨by omega, h33, rfl, rfl⟩))
      · refine Go_iload d_M_item_36 lg6 ?_
        exact Go_iretI d_M_item_38 (Or.inr (Or.inl ⟨by omega, h33, rfl, rfl⟩))
    · refine Go_const d_M_item_19 ?_
      exact Go_iretI d_M_item_20 (Or.inl ⟨by omega, rfl, rfl⟩)
def copyV (LN SZ : Row) (a i b j n : Int) : Int := if ¬ ((0 ≤ a ∧ a ≤ 3) ∧ 0 ≤ b ∧ b ≤ 3) then -1 else if LN a.toNat < 0 ∨ LN b.toNat < 0 then -11 else if LN a.toNat ≠ LN b.toNat then -12 else if n < 0 ∨ i < 0 ∨ j < 0 ∨ SZ a.toNat < i + n ∨ SZ b.toNat < j + n then -13 else n
theorem c_M_copy (a i b j n : Int) (ha : -2147483648 ≤ a ∧ a < 2147483648) (hi : -2147483648 ≤ i ∧ i < 2147483648) (hb : -2147483648 ≤ b ∧ b < 2147483648) (hj : -2147483648 ≤ j ∧ j < 2147483648) (hn : -2147483648 ≤ n ∧ n < 2147483648) (h : ShOk S) : Fn G k_M_copy [oR G 22, vI a, vI i, vI b, vI j, vI n] S (PI (fun z S1 => z = copyV (S 22 12) (S 22 13) a i b j n ∧ ((z < 0 ∧ S1 = S) ∨ (0 ≤ z ∧ ∃ A, S1 = sR (sR S 22 15 A) 22 14 (cpR (S 22 14) (fun k => S 22 14 ((24 * a + i).toNat + k)) (24 * b + j).toNat n.toNat))))) := by
  refine Fn.of [some (oR G 22), some (vI a), some (vI i), some (vI b), some (vI j), some (vI n), none] 1 rfl (by decide +kernel) rfl (Nat.le_of_ble_eq_true rfl) (by decide) ?_

  have loop2 := loopI (fun k => ((0 ≤ a ∧ a ≤ 3) ∧ 0 ≤ b ∧ b ≤ 3) → (0 ≤ S 22 12 a.toNat ∧ S 22 12 a.toNat = S 22 12 b.toNat) → (0 ≤ n ∧ 0 ≤ i ∧ 0 ≤ j ∧ i + n ≤ S 22 13 a.toNat ∧ j + n ≤ S 22 13 b.toNat ∧ S 22 13 a.toNat ≤ 24 ∧ S 22 13 b.toNat ≤ 24) → ∀ A S1, (∀ q : Nat, (q : Int) < n → A q = S 22 14 ((24 * a + i).toNat + q)) → S1 = sR (sR S 22 15 A) 22 14 (cpR (S 22 14) (fun k => S 22 14 ((24 * a + i).toNat + k)) (24 * b + j).toNat k.toNat) → 0 ≤ n → Go G k_M_copy 147 [some (oR G 22), some (vI a), some (vI i), some (vI b), some (vI j), some (vI n), some (vI k)] [] S1 (PI (fun z S1 => z = copyV (S 22 12) (S 22 13) a i b j n ∧ ((z < 0 ∧ S1 = S) ∨ (0 ≤ z ∧ ∃ A, S1 = sR (sR S 22 15 A) 22 14 (cpR (S 22 14) (fun k => S 22 14 ((24 * a + i).toNat + k)) (24 * b + j).toNat n.toNat)))))) (if 0 ≤ n then n else 0) ?_ ?_
  have loop1 := loopI (fun k => ((0 ≤ a ∧ a ≤ 3) ∧ 0 ≤ b ∧ b ≤ 3) → (0 ≤ S 22 12 a.toNat ∧ S 22 12 a.toNat = S 22 12 b.toNat) → (0 ≤ n ∧ 0 ≤ i ∧ 0 ≤ j ∧ i + n ≤ S 22 13 a.toNat ∧ j + n ≤ S 22 13 b.toNat ∧ S 22 13 a.toNat ≤ 24 ∧ S 22 13 b.toNat ≤ 24) → ∀ A S1, (∀ q : Nat, (q : Int) < k → A q = S 22 14 ((24 * a + i).toNat + q)) → S1 = sR S 22 15 A → 0 ≤ n → Go G k_M_copy 110 [some (oR G 22), some (vI a), some (vI i), some (vI b), some (vI j), some (vI n), some (vI k)] [] S1 (PI (fun z S1 => z = copyV (S 22 12) (S 22 13) a i b j n ∧ ((z < 0 ∧ S1 = S) ∨ (0 ≤ z ∧ ∃ A, S1 = sR (sR S 22 15 A) 22 14 (cpR (S 22 14) (fun k => S 22 14 ((24 * a + i).toNat + k)) (24 * b + j).toNat n.toNat)))))) (if 0 ≤ n then n else 0) ?_ ?_
  refine Go_iload d_M_copy_0 lg1 ?_
  refine Go_S1p d_M_copy_1 (c_M_isSheet _ (by omega)) (Nat.le_of_ble_eq_true rfl) ?_
  refine Go_ifeq_d d_M_copy_4 (fun h4 => ?_) (fun h4 => ?_)
  · refine Go_const d_M_copy_14 ?_
    exact Go_iretI d_M_copy_15 ⟨by unfold copyV; (repeat' split) <;> omega, Or.inl ⟨by omega, rfl⟩⟩
  · refine Go_iload d_M_copy_7 lg3 ?_
    refine Go_S1p d_M_copy_8 (c_M_isSheet _ (by omega)) (Nat.le_of_ble_eq_true rfl) ?_
    refine Go_ifne_d d_M_copy_11 (fun h11 => ?_) (fun h11 => ?_)
    · have q1 := h.1 a.toNat (by omega)
      have q2 := h.1 b.toNat (by omega)
      refine Go_aload d_M_copy_16 lg0 ⟨_, rfl⟩ ?_
      refine Go_get d_M_copy_17 fm_12 ?_
      refine Go_iload d_M_copy_20 lg1 ?_
      refine Go_iald d_M_copy_21 am_12 (by omega) ?_
      refine Go_if_lt d_M_copy_22 (by omega) (fun h22 => ?_) (fun h22 => ?_)
      · refine Go_const d_M_copy_34 ?_
        exact Go_iretI d_M_copy_36 ⟨by unfold copyV; (repeat' split) <;> omega, Or.inl ⟨by omega, rfl⟩⟩
      · refine Go_aload d_M_copy_25 lg0 ⟨_, rfl⟩ ?_
        refine Go_get d_M_copy_26 fm_12 ?_
        refine Go_iload d_M_copy_29 lg3 ?_
        refine Go_iald d_M_copy_30 am_12 (by omega) ?_
        refine Go_if_ge d_M_copy_31 (by omega) (fun h31 => ?_) (fun h31 => ?_)
        · refine Go_aload d_M_copy_37 lg0 ⟨_, rfl⟩ ?_
          refine Go_get d_M_copy_38 fm_12 ?_
          refine Go_iload d_M_copy_41 lg1 ?_
          refine Go_iald d_M_copy_42 am_12 (by omega) ?_
          refine Go_aload d_M_copy_43 lg0 ⟨_, rfl⟩ ?_
          refine Go_get d_M_copy_44 fm_12 ?_
          refine Go_iload d_M_copy_47 lg3 ?_
          refine Go_iald d_M_copy_48 am_12 (by omega) ?_
          refine Go_icmp_eq d_M_copy_49 (by omega) (by omega) (fun h49 => ?_) (fun h49 => ?_)
          · refine Go_iload d_M_copy_55 lg5 ?_
            refine Go_if_lt d_M_copy_57 (by omega) (fun h57 => ?_) (fun h57 => ?_)
            · refine Go_const d_M_copy_104 ?_
              exact Go_iretI d_M_copy_106 ⟨by unfold copyV; (repeat' split) <;> omega, Or.inl ⟨by omega, rfl⟩⟩
            · refine Go_iload d_M_copy_60 lg2 ?_
              refine Go_if_lt d_M_copy_61 (by omega) (fun h61 => ?_) (fun h61 => ?_)
              · refine Go_const d_M_copy_104 ?_
                exact Go_iretI d_M_copy_106 ⟨by unfold copyV; (repeat' split) <;> omega, Or.inl ⟨by omega, rfl⟩⟩
              · refine Go_iload d_M_copy_64 lg4 ?_
                refine Go_if_lt d_M_copy_66 (by omega) (fun h66 => ?_) (fun h66 => ?_)
                · refine Go_const d_M_copy_104 ?_
                  exact Go_iretI d_M_copy_106 ⟨by unfold copyV; (repeat' split) <;> omega, Or.inl ⟨by omega, rfl⟩⟩
                · refine Go_iload d_M_copy_69 lg2 ?_
                  refine Go_i2l d_M_copy_70 (by omega) ?_
                  refine Go_iload d_M_copy_71 lg5 ?_
                  refine Go_i2l d_M_copy_73 (by omega) ?_
                  refine Go_ladd d_M_copy_74 ?_
                  refine Go_aload d_M_copy_75 lg0 ⟨_, rfl⟩ ?_
                  refine Go_get d_M_copy_76 fm_13 ?_
                  refine Go_iload d_M_copy_79 lg1 ?_
                  refine Go_iald d_M_copy_80 am_13 (by omega) ?_
                  refine Go_i2l d_M_copy_81 (by omega) ?_
                  refine Go_lcmp d_M_copy_82 (by omega) (by omega) ?_
                  refine Go_ifc_gt d_M_copy_83 (fun h83 => ?_) (fun h83 => ?_)
                  · refine Go_const d_M_copy_104 ?_
                    exact Go_iretI d_M_copy_106 ⟨by unfold copyV; (repeat' split) <;> omega, Or.inl ⟨by omega, rfl⟩⟩
                  · refine Go_iload d_M_copy_86 lg4 ?_
                    refine Go_i2l d_M_copy_88 (by omega) ?_
                    refine Go_iload d_M_copy_89 lg5 ?_
                    refine Go_i2l d_M_copy_91 (by omega) ?_
                    refine Go_ladd d_M_copy_92 ?_
                    refine Go_aload d_M_copy_93 lg0 ⟨_, rfl⟩ ?_
                    refine Go_get d_M_copy_94 fm_13 ?_
                    refine Go_iload d_M_copy_97 lg3 ?_
                    refine Go_iald d_M_copy_98 am_13 (by omega) ?_
                    refine Go_i2l d_M_copy_99 (by omega) ?_
                    refine Go_lcmp d_M_copy_100 (by omega) (by omega) ?_
                    refine Go_ifc_le d_M_copy_101 (fun h101 => ?_) (fun h101 => ?_)
                    · refine Go_const d_M_copy_107 ?_
                      refine Go_istore d_M_copy_108 rfl sa6 ?_
                      exact loop1 0 (by omega) (by split <;> omega) (by omega) (by omega) (by omega) (S 22 15) S (fun q hq => by omega) (sR_id _ _ _).symm (by omega)
                    · refine Go_const d_M_copy_104 ?_
                      exact Go_iretI d_M_copy_106 ⟨by unfold copyV; (repeat' split) <;> omega, Or.inl ⟨by omega, rfl⟩⟩
          · refine Go_const d_M_copy_52 ?_
            exact Go_iretI d_M_copy_54 ⟨by unfold copyV; (repeat' split) <;> omega, Or.inl ⟨by omega, rfl⟩⟩
        · refine Go_const d_M_copy_34 ?_
          exact Go_iretI d_M_copy_36 ⟨by unfold copyV; (repeat' split) <;> omega, Or.inl ⟨by omega, rfl⟩⟩
    · refine Go_const d_M_copy_14 ?_
      exact Go_iretI d_M_copy_15 ⟨by unfold copyV; (repeat' split) <;> omega, Or.inl ⟨by omega, rfl⟩⟩
  · intro o1 o2 o3 A S1 hA hS1 hn0
    rw [if_pos hn0] at hA ⊢
    refine Go_iload d_M_copy_110 lg6 ?_
    refine Go_iload d_M_copy_112 lg5 ?_
    refine Go_icmp_ge d_M_copy_114 (by omega) (by omega) (fun h114 => ?_) (fun h114 => absurd h114 (by omega))
    refine Go_const d_M_copy_144 ?_
    refine Go_istore d_M_copy_145 rfl sa6 ?_
    refine loop2 0 (by omega) (by split <;> omega) o1 o2 o3 A S1 hA ?_ hn0
    have e : (sR S 22 15 A) 22 14 = S 22 14 := sR_j (by decide)
    rw [show (0 : Int).toNat = 0 from rfl, cpR_0, ← e, sR_id, hS1]
  · intro k h0 h1 ih o1 o2 o3 A S1 hA hS1 hn0
    rw [if_pos hn0] at h1
    have e14 : ∀ q, S1 22 14 q = S 22 14 q := fun q => by rw [hS1]; exact sR_ji (by decide)
    refine Go_iload d_M_copy_110 lg6 ?_
    refine Go_iload d_M_copy_112 lg5 ?_
    refine Go_icmp_ge d_M_copy_114 (by omega) (by omega) (fun h114 => absurd h114 (by omega)) (fun h114 => ?_)
    refine Go_aload d_M_copy_117 lg0 ⟨_, rfl⟩ ?_
    refine Go_get d_M_copy_118 fm_15 ?_
    refine Go_iload d_M_copy_121 lg6 ?_
    refine Go_aload d_M_copy_123 lg0 ⟨_, rfl⟩ ?_
    refine Go_get d_M_copy_124 fm_14 ?_
    refine Go_const d_M_copy_127 ?_
    refine Go_iload d_M_copy_129 lg1 ?_
    refine Go_imul d_M_copy_130 ?_
    refine Go_iload d_M_copy_131 lg2 ?_
    refine Go_iadd d_M_copy_132 ?_
    refine Go_iload d_M_copy_133 lg6 ?_
    refine Go_iadd d_M_copy_135 ?_
    refine Go_lald d_M_copy_136 am_14 (by omega) ?_
    refine Go_last d_M_copy_137 am_15 (by omega) ?_
    refine Go_iinc d_M_copy_138 lg6 rfl sa6 ?_
    refine Go_goto d_M_copy_141 ?_
    refine ih o1 o2 o3 (up A k.toNat (S 22 14 (24 * a + i + k).toNat)) _ ?_ ?_ hn0
    · intro q hq
      unfold up
      split
      next he => rw [he, show (24 * a + i + k).toNat = (24 * a + i).toNat + k.toNat by omega]
      next he => exact hA q (by omega)
    · rw [e14, hS1, st3_sR2]
  · intro o1 o2 o3 A S1 hA hS1 hn0
    rw [if_pos hn0] at hS1 ⊢
    refine Go_iload d_M_copy_147 lg6 ?_
    refine Go_iload d_M_copy_149 lg5 ?_
    refine Go_icmp_ge d_M_copy_151 (by omega) (by omega) (fun h151 => ?_) (fun h151 => absurd h151 (by omega))
    refine Go_iload d_M_copy_182 lg5 ?_
    exact Go_iretI d_M_copy_184 ⟨by unfold copyV; (repeat' split) <;> omega, Or.inr ⟨hn0, A, hS1⟩⟩
  · intro k h0 h1 ih o1 o2 o3 A S1 hA hS1 hn0
    rw [if_pos hn0] at h1
    have e15 : ∀ q, S1 22 15 q = A q := fun q => by rw [hS1, sR_ji (by decide), sR_si]
    refine Go_iload d_M_copy_147 lg6 ?_
    refine Go_iload d_M_copy_149 lg5 ?_
    refine Go_icmp_ge d_M_copy_151 (by omega) (by omega) (fun h151 => absurd h151 (by omega)) (fun h151 => ?_)
    refine Go_aload d_M_copy_154 lg0 ⟨_, rfl⟩ ?_
    refine Go_get d_M_copy_155 fm_14 ?_
    refine Go_const d_M_copy_158 ?_
    refine Go_iload d_M_copy_160 lg3 ?_
    refine Go_imul d_M_copy_161 ?_
    refine Go_iload d_M_copy_162 lg4 ?_
    refine Go_iadd d_M_copy_164 ?_
    refine Go_iload d_M_copy_165 lg6 ?_
    refine Go_iadd d_M_copy_167 ?_
    refine Go_aload d_M_copy_168 lg0 ⟨_, rfl⟩ ?_
    refine Go_get d_M_copy_169 fm_15 ?_
    refine Go_iload d_M_copy_172 lg6 ?_
    refine Go_lald d_M_copy_174 am_15 (by omega) ?_
    refine Go_last d_M_copy_175 am_14 (by omega) ?_
    refine Go_iinc d_M_copy_176 lg6 rfl sa6 ?_
    refine Go_goto d_M_copy_179 ?_
    refine ih o1 o2 o3 A _ hA ?_ hn0
    have hc := cpR_S (S 22 14) (fun k => S 22 14 ((24 * a + i).toNat + k)) (24 * b + j).toNat k.toNat
    rw [e15, hA k.toNat (by omega), hS1, st3_sR2, show (24 * b + j + k).toNat = (24 * b + j).toNat + k.toNat by omega, hc, show (k + 1).toNat = k.toNat + 1 by omega]
end Model9
