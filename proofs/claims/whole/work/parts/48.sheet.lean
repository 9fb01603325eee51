/-! ===== sheets of the class ===== -/
def fltV (la sz l i n : Int) : Int := if la = -1 then -11 else if la ≠ l then -12 else if 0 ≤ i ∧ 0 ≤ n ∧ i ≤ sz ∧ n ≤ sz - i then 0 else -13
section Sheet
variable {G : GT} {S : St} {c : Nat}
theorem c_H_isMissing (hc : 18 ≤ c ∧ c ≤ 21) (hl : -1 ≤ S c 0 0 ∧ S c 0 0 ≤ 3) (hz : 0 ≤ S c 1 0 ∧ S c 1 0 ≤ 24) : Fn G k_H_isMissing [oR G c] S (PV (vI (bI (S c 0 0 = -1))) S) := by
  refine Fn.of [some (oR G c)] 0 rfl (by decide +kernel) rfl (Nat.le_of_ble_eq_true rfl) (by decide) ?_
  refine Go_aload d_H_isMissing_0 lg0 ⟨_, rfl⟩ ?_
  refine Go_get d_H_isMissing_1 (fh_0 (by first | assumption | decide | omega)) ?_
  refine Go_const d_H_isMissing_4 ?_
  refine Go_icmp_ne d_H_isMissing_5 (by omega) (by omega) (fun h5 => ?_) (fun h5 => ?_)
  · refine Go_const d_H_isMissing_12 ?_
    exact Go_zretV d_H_isMissing_13 (by first | exact Or.inl rfl | exact Or.inr rfl | exact @bI_01 _ _) (by first | rfl | exact (bI_pos (by omega)).symm | exact (bI_neg (by omega)).symm)
  · refine Go_const d_H_isMissing_8 ?_
    refine Go_goto d_H_isMissing_9 ?_
    exact Go_zretV d_H_isMissing_13 (by first | exact Or.inl rfl | exact Or.inr rfl | exact @bI_01 _ _) (by first | rfl | exact (bI_pos (by omega)).symm | exact (bI_neg (by omega)).symm)
theorem c_H_holds (i n : Int) (hi : -2147483648 ≤ i ∧ i < 2147483648) (hn : -2147483648 ≤ n ∧ n < 2147483648) (hc : 18 ≤ c ∧ c ≤ 21) (hl : -1 ≤ S c 0 0 ∧ S c 0 0 ≤ 3) (hz : 0 ≤ S c 1 0 ∧ S c 1 0 ≤ 24) : Fn G k_H_holds [oR G c, vI i, vI n] S (PV (vI (bI (0 ≤ i ∧ 0 ≤ n ∧ i ≤ S c 1 0 ∧ n ≤ S c 1 0 - i))) S) := by
  refine Fn.of [some (oR G c), some (vI i), some (vI n)] 0 rfl (by decide +kernel) rfl (Nat.le_of_ble_eq_true rfl) (by decide) ?_
  refine Go_iload d_H_holds_0 lg1 ?_
  refine Go_if_lt d_H_holds_1 (by omega) (fun h1 => ?_) (fun h1 => ?_)
  · refine Go_const d_H_holds_30 ?_
    exact Go_zretV d_H_holds_31 (by first | exact Or.inl rfl | exact Or.inr rfl | exact @bI_01 _ _) (by first | rfl | exact (bI_pos (by omega)).symm | exact (bI_neg (by omega)).symm)
  · refine Go_iload d_H_holds_4 lg2 ?_
    refine Go_if_lt d_H_holds_5 (by omega) (fun h5 => ?_) (fun h5 => ?_)
    · refine Go_const d_H_holds_30 ?_
      exact Go_zretV d_H_holds_31 (by first | exact Or.inl rfl | exact Or.inr rfl | exact @bI_01 _ _) (by first | rfl | exact (bI_pos (by omega)).symm | exact (bI_neg (by omega)).symm)
    · refine Go_iload d_H_holds_8 lg1 ?_
      refine Go_aload d_H_holds_9 lg0 ⟨_, rfl⟩ ?_
      refine Go_get d_H_holds_10 (fh_1 (by first | assumption | decide | omega)) ?_
      refine Go_icmp_gt d_H_holds_13 (by omega) (by omega) (fun h13 => ?_) (fun h13 => ?_)
      · refine Go_const d_H_holds_30 ?_
        exact Go_zretV d_H_holds_31 (by first | exact Or.inl rfl | exact Or.inr rfl | exact @bI_01 _ _) (by first | rfl | exact (bI_pos (by omega)).symm | exact (bI_neg (by omega)).symm)
      · refine Go_iload d_H_holds_16 lg2 ?_
        refine Go_aload d_H_holds_17 lg0 ⟨_, rfl⟩ ?_
        refine Go_get d_H_holds_18 (fh_1 (by first | assumption | decide | omega)) ?_
        refine Go_iload d_H_holds_21 lg1 ?_
        refine Go_isub d_H_holds_22 ?_
        refine Go_icmp_gt d_H_holds_23 (by omega) (by omega) (fun h23 => ?_) (fun h23 => ?_)
        · refine Go_const d_H_holds_30 ?_
          exact Go_zretV d_H_holds_31 (by first | exact Or.inl rfl | exact Or.inr rfl | exact @bI_01 _ _) (by first | rfl | exact (bI_pos (by omega)).symm | exact (bI_neg (by omega)).symm)
        · refine Go_const d_H_holds_26 ?_
          refine Go_goto d_H_holds_27 ?_
          exact Go_zretV d_H_holds_31 (by first | exact Or.inl rfl | exact Or.inr rfl | exact @bI_01 _ _) (by first | rfl | exact (bI_pos (by omega)).symm | exact (bI_neg (by omega)).symm)
theorem c_H_fault (l i n : Int) (hl0 : -2147483648 ≤ l ∧ l < 2147483648) (hi : -2147483648 ≤ i ∧ i < 2147483648) (hn : -2147483648 ≤ n ∧ n < 2147483648) (hc : 18 ≤ c ∧ c ≤ 21) (hl : -1 ≤ S c 0 0 ∧ S c 0 0 ≤ 3) (hz : 0 ≤ S c 1 0 ∧ S c 1 0 ≤ 24) : Fn G k_H_fault [oR G c, vI l, vI i, vI n] S (PV (vI (fltV (S c 0 0) (S c 1 0) l i n)) S) := by
  refine Fn.of [some (oR G c), some (vI l), some (vI i), some (vI n)] 0 rfl (by decide +kernel) rfl (Nat.le_of_ble_eq_true rfl) (by decide) ?_
  refine Go_aload d_H_fault_0 lg0 ⟨_, rfl⟩ ?_
  refine Go_V0p d_H_fault_1 (kH (by first | assumption | decide | omega)) (c_H_isMissing (by first | assumption | omega) (by first | assumption | omega) (by first | assumption | omega)) (Nat.le_of_ble_eq_true rfl) ?_
  refine Go_ifeq_d d_H_fault_4 (fun h4 => ?_) (fun h4 => ?_)
  · refine Go_aload d_H_fault_10 lg0 ⟨_, rfl⟩ ?_
    refine Go_get d_H_fault_11 (fh_0 (by first | assumption | decide | omega)) ?_
    refine Go_iload d_H_fault_14 lg1 ?_
    refine Go_icmp_eq d_H_fault_15 (by omega) (by omega) (fun h15 => ?_) (fun h15 => ?_)
    · refine Go_aload d_H_fault_21 lg0 ⟨_, rfl⟩ ?_
      refine Go_iload d_H_fault_22 lg2 ?_
      refine Go_iload d_H_fault_23 lg3 ?_
      refine Go_V2p d_H_fault_24 (kH (by first | assumption | decide | omega)) (c_H_holds _ _ (by omega) (by omega) (by first | assumption | omega) (by first | assumption | omega) (by first | assumption | omega)) (Nat.le_of_ble_eq_true rfl) ?_
      refine Go_ifeq_d d_H_fault_27 (fun h27 => ?_) (fun h27 => ?_)
      · refine Go_const d_H_fault_34 ?_
        first
          | exact Go_iretV d_H_fault_36 (by unfold fltV; rw [if_neg h4, if_neg (not_not_intro h15), if_pos h27])
          | exact Go_iretV d_H_fault_36 (by unfold fltV; rw [if_neg h4, if_neg (not_not_intro h15), if_neg h27])
      · refine Go_const d_H_fault_30 ?_
        refine Go_goto d_H_fault_31 ?_
        first
          | exact Go_iretV d_H_fault_36 (by unfold fltV; rw [if_neg h4, if_neg (not_not_intro h15), if_pos h27])
          | exact Go_iretV d_H_fault_36 (by unfold fltV; rw [if_neg h4, if_neg (not_not_intro h15), if_neg h27])
    · refine Go_const d_H_fault_18 ?_
      exact Go_iretV d_H_fault_20 (by unfold fltV; rw [if_neg h4, if_pos h15])
  · refine Go_const d_H_fault_7 ?_
    exact Go_iretV d_H_fault_9 (by unfold fltV; rw [if_pos h4])
theorem c_H_at (i : Int) (hi : 0 ≤ i ∧ i < S c 1 0) (hc : 18 ≤ c ∧ c ≤ 21) (hl : -1 ≤ S c 0 0 ∧ S c 0 0 ≤ 3) (hz : 0 ≤ S c 1 0 ∧ S c 1 0 ≤ 24) : Fn G k_H_at [oR G c, vI i] S (PV (vL (S c 2 i.toNat)) S) := by
  refine Fn.of [some (oR G c), some (vI i)] 0 rfl (by decide +kernel) rfl (Nat.le_of_ble_eq_true rfl) (by decide) ?_
  refine Go_aload d_H_at_0 lg0 ⟨_, rfl⟩ ?_
  refine Go_iload d_H_at_1 lg1 ?_
  refine Go_const d_H_at_2 ?_
  refine Go_V2p d_H_at_3 (kH (by first | assumption | decide | omega)) (c_H_holds _ _ (by omega) (by omega) (by first | assumption | omega) (by first | assumption | omega) (by first | assumption | omega)) (Nat.le_of_ble_eq_true rfl) ?_
  refine Go_ifeq_d d_H_at_6 (fun h6 => absurd h6 (by omega)) (fun h6 => ?_)
  refine Go_aload d_H_at_9 lg0 ⟨_, rfl⟩ ?_
  refine Go_get d_H_at_10 (fh_2 (by first | assumption | decide | omega)) ?_
  refine Go_iload d_H_at_13 lg1 ?_
  refine Go_lald d_H_at_14 (ah_2 (by first | assumption | decide | omega)) (by omega) ?_
  refine Go_goto d_H_at_15 ?_
  exact Go_lretV d_H_at_19 (by first | rfl | omega)
theorem c_H_put (i v : Int) (hi : 0 ≤ i ∧ i < S c 1 0) (hv : -9223372036854775808 ≤ v ∧ v < 9223372036854775808) (hp : 0 ≤ S c 0 0) (hc : 18 ≤ c ∧ c ≤ 21) (hl : -1 ≤ S c 0 0 ∧ S c 0 0 ≤ 3) (hz : 0 ≤ S c 1 0 ∧ S c 1 0 ≤ 24) : Fn G k_H_put [oR G c, vI i, vL v] S (PN (fun S1 => S1 = st3 S c 2 i.toNat (cutV v (S c 0 0)))) := by
  have w0 := w8_rg v
  have w1 := w16_rg v
  have w2 := w32_rg v
  refine Fn.of [some (oR G c), some (vI i), some (vL v), none] 0 rfl (by decide +kernel) rfl (Nat.le_of_ble_eq_true rfl) (by decide) ?_
  refine Go_aload d_H_put_0 lg0 ⟨_, rfl⟩ ?_
  refine Go_iload d_H_put_1 lg1 ?_
  refine Go_const d_H_put_2 ?_
  refine Go_V2p d_H_put_3 (kH (by first | assumption | decide | omega)) (c_H_holds _ _ (by omega) (by omega) (by first | assumption | omega) (by first | assumption | omega) (by first | assumption | omega)) (Nat.le_of_ble_eq_true rfl) ?_
  refine Go_ifne_d d_H_put_6 (fun h6 => ?_) (fun h6 => absurd h6 (by omega))
  refine Go_aload d_H_put_10 lg0 ⟨_, rfl⟩ ?_
  refine Go_get d_H_put_11 (fh_0 (by first | assumption | decide | omega)) ?_
  generalize S c 0 0 = la at hl hp ⊢
  have hsw0 : la = 0 ∨ la = 1 ∨ la = 2 ∨ (la < 0 ∨ 2 < la) := by omega
  rcases hsw0 with rfl | rfl | rfl | hsw
  · refine Go_tswIn (t := 40) d_H_put_14 (by decide) (by decide) (by decide) rfl (by decide) ?_
    refine Go_aload d_H_put_40 lg0 ⟨_, rfl⟩ ?_
    refine Go_get d_H_put_41 (fh_2 (by first | assumption | decide | omega)) ?_
    refine Go_iload d_H_put_44 lg1 ?_
    refine Go_lload d_H_put_45 lg2 ?_
    refine Go_l2i d_H_put_46 ?_
    refine Go_i2b d_H_put_47 ?_
    refine Go_i2l d_H_put_48 (by omega) ?_
    refine Go_last d_H_put_49 (ah_2 (by first | assumption | decide | omega)) (by omega) ?_
    refine Go_goto d_H_put_50 ?_
    first
      | exact Go_vretN d_H_put_85 (by unfold cutV; rw [if_neg (by omega), if_neg (by omega), if_neg (by omega)])
      | exact Go_vretN d_H_put_85 (by unfold cutV; simp)
  · refine Go_tswIn (t := 53) d_H_put_14 (by decide) (by decide) (by decide) rfl (by decide) ?_
    refine Go_aload d_H_put_53 lg0 ⟨_, rfl⟩ ?_
    refine Go_get d_H_put_54 (fh_2 (by first | assumption | decide | omega)) ?_
    refine Go_iload d_H_put_57 lg1 ?_
    refine Go_lload d_H_put_58 lg2 ?_
    refine Go_l2i d_H_put_59 ?_
    refine Go_i2s d_H_put_60 ?_
    refine Go_i2l d_H_put_61 (by omega) ?_
    refine Go_last d_H_put_62 (ah_2 (by first | assumption | decide | omega)) (by omega) ?_
    refine Go_goto d_H_put_63 ?_
    first
      | exact Go_vretN d_H_put_85 (by unfold cutV; rw [if_neg (by omega), if_neg (by omega), if_neg (by omega)])
      | exact Go_vretN d_H_put_85 (by unfold cutV; simp)
  · refine Go_tswIn (t := 66) d_H_put_14 (by decide) (by decide) (by decide) rfl (by decide) ?_
    refine Go_aload d_H_put_66 lg0 ⟨_, rfl⟩ ?_
    refine Go_get d_H_put_67 (fh_2 (by first | assumption | decide | omega)) ?_
    refine Go_iload d_H_put_70 lg1 ?_
    refine Go_lload d_H_put_71 lg2 ?_
    refine Go_l2i d_H_put_72 ?_
    rw [w32_iI v]
    refine Go_i2l d_H_put_73 (by omega) ?_
    refine Go_last d_H_put_74 (ah_2 (by first | assumption | decide | omega)) (by omega) ?_
    refine Go_goto d_H_put_75 ?_
    first
      | exact Go_vretN d_H_put_85 (by unfold cutV; rw [if_neg (by omega), if_neg (by omega), if_neg (by omega)])
      | exact Go_vretN d_H_put_85 (by unfold cutV; simp)
  · refine Go_tswOut (t := 78) d_H_put_14 (by omega) hsw (by decide) ?_
    refine Go_aload d_H_put_78 lg0 ⟨_, rfl⟩ ?_
    refine Go_get d_H_put_79 (fh_2 (by first | assumption | decide | omega)) ?_
    refine Go_iload d_H_put_82 lg1 ?_
    refine Go_lload d_H_put_83 lg2 ?_
    refine Go_last d_H_put_84 (ah_2 (by first | assumption | decide | omega)) (by omega) ?_
    first
      | exact Go_vretN d_H_put_85 (by unfold cutV; rw [if_neg (by omega), if_neg (by omega), if_neg (by omega)])
      | exact Go_vretN d_H_put_85 (by unfold cutV; simp)
theorem c_J_fill (hc : 18 ≤ c ∧ c ≤ 21) : Fn G k_J_fill [aR G c 2, vL 0] S (PN (fun S1 => S1 = sR S c 2 (zeroR (S c 2) 0 24))) := by
  refine Fn.ofF [some (aR G c 2), some (vL 0), none, none, none] 2 rfl (by decide +kernel) rfl (Nat.le_of_ble_eq_true rfl) (by decide) ?_

  have loop := loopI (fun b => Go G k_J_fill 6 [some (aR G c 2), some (vL 0), none, some (vI b), some (vI ((24 : Nat) : Int))] [] (sR S c 2 (zeroR (S c 2) 0 b.toNat)) (PN (fun S1 => S1 = sR S c 2 (zeroR (S c 2) 0 24)))) 24 ?_ ?_
  refine Go_const d_J_fill_0 ?_
  refine Go_istore d_J_fill_1 rfl sa3 ?_
  refine Go_aload d_J_fill_2 lg0 ⟨_, rfl⟩ ?_
  refine Go_alen d_J_fill_3 (ah_2 hc) ?_
  refine Go_istore d_J_fill_4 rfl sa4 ?_
  have h0 := loop 0 (by omega) (by omega)
  rw [show (0 : Int).toNat = 0 from rfl, zeroR_0, sR_id] at h0
  exact h0
  · refine Go_iload d_J_fill_6 lg3 ?_
    refine Go_iload d_J_fill_7 lg4 ?_
    refine Go_icmp_ge d_J_fill_9 (by omega) (by omega) (fun h9 => ?_) (fun h9 => absurd h9 (by omega))
    exact Go_vretN d_J_fill_22 rfl
  · intro b h0 h1 ih
    refine Go_iload d_J_fill_6 lg3 ?_
    refine Go_iload d_J_fill_7 lg4 ?_
    refine Go_icmp_ge d_J_fill_9 (by omega) (by omega) (fun h9 => absurd h9 (by omega)) (fun h9 => ?_)
    refine Go_aload d_J_fill_12 lg0 ⟨_, rfl⟩ ?_
    refine Go_iload d_J_fill_13 lg3 ?_
    refine Go_lload d_J_fill_14 lg1 ?_
    refine Go_last d_J_fill_15 (ah_2 (by first | assumption | decide | omega)) (by omega) ?_
    refine Go_iinc d_J_fill_16 lg3 rfl sa3 ?_
    refine Go_goto d_J_fill_19 ?_
    have e := zeroR_S (S c 2) 0 b.toNat
    rw [Nat.zero_add] at e
    rw [show (b + 1).toNat = b.toNat + 1 by omega, ← e] at ih
    rw [st3_sR2]
    exact ih
theorem c_H_renew (l n : Int) (hc : 18 ≤ c ∧ c ≤ 21) : Fn G k_H_renew [oR G c, vI l, vI n] S (PN (fun S1 => S1 = sB S c (fun j => if j = 0 then up (S c 0) 0 l else if j = 1 then up (S c 1) 0 n else if j = 2 then zeroR (S c 2) 0 24 else S c j))) := by
  refine Fn.of [some (oR G c), some (vI l), some (vI n)] 0 rfl (by decide +kernel) rfl (Nat.le_of_ble_eq_true rfl) (by decide) ?_
  refine Go_aload d_H_renew_0 lg0 ⟨_, rfl⟩ ?_
  refine Go_iload d_H_renew_1 lg1 ?_
  refine Go_put d_H_renew_2 (wh_0 (by first | assumption | decide | omega) _) rfl rfl ?_
  refine Go_aload d_H_renew_5 lg0 ⟨_, rfl⟩ ?_
  refine Go_iload d_H_renew_6 lg2 ?_
  refine Go_put d_H_renew_7 (wh_1 (by first | assumption | decide | omega) _) rfl rfl ?_
  refine Go_aload d_H_renew_10 lg0 ⟨_, rfl⟩ ?_
  refine Go_get d_H_renew_11 (fh_2 (by first | assumption | decide | omega)) ?_
  refine Go_lconst d_H_renew_14 ?_
  refine Go_S2n d_H_renew_15 (c_J_fill hc) (Nat.le_of_ble_eq_true rfl) ?_
  rintro S1 rfl
  refine Go_vretN d_H_renew_18 ?_
  funext c1 j i
  by_cases hcc : c1 = c
  · subst hcc
    rw [sB_s]
    by_cases h0 : j = 0
    · subst h0; simp [sR, st3, up]
    by_cases h1 : j = 1
    · subst h1; simp [sR, st3, up]
    by_cases h2 : j = 2
    · subst h2; simp [sR, st3, up, zeroR]
    simp [sR, st3, h0, h1, h2]
  · rw [sB_c hcc]; simp [sR, st3, hcc]
theorem c_H_tellsPairs (a n : Int) (ha : 0 ≤ a) (hn : 0 ≤ n ∧ n ≤ 8) (han : a + 2 * n ≤ S c 1 0) (hI : ∀ k : Nat, k < 24 → -9223372036854775808 ≤ S c 2 k ∧ S c 2 k < 9223372036854775808) (hc : 18 ≤ c ∧ c ≤ 21) (hl : -1 ≤ S c 0 0 ∧ S c 0 0 ≤ 3) (hz : 0 ≤ S c 1 0 ∧ S c 1 0 ≤ 24) : Fn G k_H_tellsPairs [oR G c, vI a, vI n] S (PV (vI (bC (∀ k : Nat, (k : Int) < 2 * n → itOk (S c 2) a.toNat k))) S) := by
  refine Fn.of [some (oR G c), some (vI a), some (vI n), none, none, none, none, none] 5 rfl (by decide +kernel) rfl (Nat.le_of_ble_eq_true rfl) (by decide) ?_

  have loop := loopI (fun b => (∀ k : Nat, (k : Int) < 2 * b → itOk (S c 2) a.toNat k) → Go G k_H_tellsPairs 2 [some (oR G c), some (vI a), some (vI n), some (vI b), none, none, none, none] [] S (PV (vI (bC (∀ k : Nat, (k : Int) < 2 * n → itOk (S c 2) a.toNat k))) S)) n ?_ ?_
  refine Go_const d_H_tellsPairs_0 ?_
  refine Go_istore d_H_tellsPairs_1 rfl sa3 ?_
  exact loop 0 (by omega) (by omega) (fun k hk => by omega)
  · intro hq
    refine Go_iload d_H_tellsPairs_2 lg3 ?_
    refine Go_iload d_H_tellsPairs_3 lg2 ?_
    refine Go_icmp_ge d_H_tellsPairs_4 (by omega) (by omega) (fun h4 => ?_) (fun h4 => absurd h4 (by omega))
    refine Go_const d_H_tellsPairs_71 ?_
    exact Go_zretV d_H_tellsPairs_72 (by decide) (bC1 hq)
  · intro b h0 h1 ih hq
    have r1 := hI (a + 2 * b).toNat (by omega)
    have r2 := hI (a + 2 * b + 1).toNat (by omega)
    have k1 : itOk (S c 2) a.toNat (2 * b).toNat ↔ 0 ≤ S c 2 (a + 2 * b).toNat ∧ S c 2 (a + 2 * b).toNat ≤ 9 := by
      unfold itOk
      rw [show a.toNat + (2 * b).toNat = (a + 2 * b).toNat by omega, if_pos (by omega)]
    have k2 : itOk (S c 2) a.toNat (2 * b + 1).toNat ↔ 0 ≤ S c 2 (a + 2 * b + 1).toNat ∧ S c 2 (a + 2 * b + 1).toNat ≤ 40 := by
      unfold itOk
      rw [show a.toNat + (2 * b + 1).toNat = (a + 2 * b + 1).toNat by omega, if_neg (by omega)]
    refine Go_iload d_H_tellsPairs_2 lg3 ?_
    refine Go_iload d_H_tellsPairs_3 lg2 ?_
    refine Go_icmp_ge d_H_tellsPairs_4 (by omega) (by omega) (fun h4 => absurd h4 (by omega)) (fun h4 => ?_)
    refine Go_aload d_H_tellsPairs_7 lg0 ⟨_, rfl⟩ ?_
    refine Go_iload d_H_tellsPairs_8 lg1 ?_
    refine Go_const d_H_tellsPairs_9 ?_
    refine Go_iload d_H_tellsPairs_10 lg3 ?_
    refine Go_imul d_H_tellsPairs_11 ?_
    refine Go_iadd d_H_tellsPairs_12 ?_
    refine Go_V1p d_H_tellsPairs_13 (kH (by first | assumption | decide | omega)) (c_H_at (a + 2 * b) (by omega) hc hl hz) (Nat.le_of_ble_eq_true rfl) ?_
    refine Go_lstore d_H_tellsPairs_16 rfl sb4 ?_
    refine Go_aload d_H_tellsPairs_18 lg0 ⟨_, rfl⟩ ?_
    refine Go_iload d_H_tellsPairs_19 lg1 ?_
    refine Go_const d_H_tellsPairs_20 ?_
    refine Go_iload d_H_tellsPairs_21 lg3 ?_
    refine Go_imul d_H_tellsPairs_22 ?_
    refine Go_iadd d_H_tellsPairs_23 ?_
    refine Go_const d_H_tellsPairs_24 ?_
    refine Go_iadd d_H_tellsPairs_25 ?_
    refine Go_V1p d_H_tellsPairs_26 (kH (by first | assumption | decide | omega)) (c_H_at (a + 2 * b + 1) (by omega) hc hl hz) (Nat.le_of_ble_eq_true rfl) ?_
    refine Go_lstore d_H_tellsPairs_29 rfl sb6 ?_
    refine Go_lload d_H_tellsPairs_31 lg4 ?_
    refine Go_lconst d_H_tellsPairs_33 ?_
    refine Go_lcmp d_H_tellsPairs_34 (by omega) (by omega) ?_
    refine Go_ifc_lt d_H_tellsPairs_35 (fun h35 => ?_) (fun h35 => ?_)
    · refine Go_const d_H_tellsPairs_63 ?_
      refine Go_zretV d_H_tellsPairs_64 (by decide) (bC0 (fun q => ?_))
      have q1 := k1.1 (q (2 * b).toNat (by omega))
      have q2 := k2.1 (q (2 * b + 1).toNat (by omega))
      omega
    · refine Go_lload d_H_tellsPairs_38 lg4 ?_
      refine Go_lconst d_H_tellsPairs_40 ?_
      refine Go_lcmp d_H_tellsPairs_43 (by omega) (by omega) ?_
      refine Go_ifc_gt d_H_tellsPairs_44 (fun h44 => ?_) (fun h44 => ?_)
      · refine Go_const d_H_tellsPairs_63 ?_
        refine Go_zretV d_H_tellsPairs_64 (by decide) (bC0 (fun q => ?_))
        have q1 := k1.1 (q (2 * b).toNat (by omega))
        have q2 := k2.1 (q (2 * b + 1).toNat (by omega))
        omega
      · refine Go_lload d_H_tellsPairs_47 lg6 ?_
        refine Go_lconst d_H_tellsPairs_49 ?_
        refine Go_lcmp d_H_tellsPairs_50 (by omega) (by omega) ?_
        refine Go_ifc_lt d_H_tellsPairs_51 (fun h51 => ?_) (fun h51 => ?_)
        · refine Go_const d_H_tellsPairs_63 ?_
          refine Go_zretV d_H_tellsPairs_64 (by decide) (bC0 (fun q => ?_))
          have q1 := k1.1 (q (2 * b).toNat (by omega))
          have q2 := k2.1 (q (2 * b + 1).toNat (by omega))
          omega
        · refine Go_lload d_H_tellsPairs_54 lg6 ?_
          refine Go_lconst d_H_tellsPairs_56 ?_
          refine Go_lcmp d_H_tellsPairs_59 (by omega) (by omega) ?_
          refine Go_ifc_le d_H_tellsPairs_60 (fun h60 => ?_) (fun h60 => ?_)
          · refine Go_iinc d_H_tellsPairs_65 lg3 rfl sa3 ?_
            refine Go_goto d_H_tellsPairs_68 ?_
            refine fg4 (fg5 (fg6 (fg7 (ih (fun k hk => ?_)))))
            by_cases e1 : k = (2 * b).toNat
            · rw [e1]; exact k1.2 ⟨by omega, by omega⟩
            by_cases e2 : k = (2 * b + 1).toNat
            · rw [e2]; exact k2.2 ⟨by omega, by omega⟩
            exact hq k (by omega)
          · refine Go_const d_H_tellsPairs_63 ?_
            refine Go_zretV d_H_tellsPairs_64 (by decide) (bC0 (fun q => ?_))
            have q1 := k1.1 (q (2 * b).toNat (by omega))
            have q2 := k2.1 (q (2 * b + 1).toNat (by omega))
            omega
end Sheet
