section Model6
variable {G : GT} {S : St}
theorem c_M_type (x : Int) (hx : -2147483648 ≤ x ∧ x < 2147483648) (hT : TOk (S 22 3) (S 22 4 0)) : Fn G k_M_type [oR G 22, vI x] S (PI (fun z S1 => (¬ (32 ≤ x ∧ x ≤ 126) ∧ z = -1 ∧ S1 = S) ∨ ((32 ≤ x ∧ x ≤ 126) ∧ S 22 4 0 = 90 ∧ z = -3 ∧ S1 = S) ∨ ((32 ≤ x ∧ x ≤ 126) ∧ S 22 4 0 < 90 ∧ z = S 22 4 0 + 1 ∧ S1 = st3 (st3 S 22 3 (S 22 4 0).toNat x) 22 4 0 (S 22 4 0 + 1)))) := by
  obtain ⟨hL, -⟩ := hT
  refine Fn.of [some (oR G 22), some (vI x)] 0 rfl (by decide +kernel) rfl (Nat.le_of_ble_eq_true rfl) (by decide) ?_
  refine Go_iload d_M_type_0 lg1 ?_
  refine Go_i2l d_M_type_1 (by omega) ?_
  refine Go_lconst d_M_type_2 ?_
  refine Go_lconst d_M_type_5 ?_
  refine Go_S3p d_M_type_8 (c_M_in _ _ _ (by omega) (by omega) (by omega)) (Nat.le_of_ble_eq_true rfl) ?_
  refine Go_ifne_d d_M_type_11 (fun h11 => ?_) (fun h11 => ?_)
  · refine Go_aload d_M_type_16 lg0 ⟨_, rfl⟩ ?_
    refine Go_get d_M_type_17 fm_4 ?_
    refine Go_const d_M_type_20 ?_
    refine Go_icmp_ne d_M_type_22 (by omega) (by omega) (fun h22 => ?_) (fun h22 => ?_)
    · refine Go_aload d_M_type_28 lg0 ⟨_, rfl⟩ ?_
      refine Go_get d_M_type_29 fm_3 ?_
      refine Go_aload d_M_type_32 lg0 ⟨_, rfl⟩ ?_
      refine Go_get d_M_type_33 fm_4 ?_
      refine Go_iload d_M_type_36 lg1 ?_
      refine Go_iast d_M_type_37 am_3 (by omega) ?_
      refine Go_aload d_M_type_38 lg0 ⟨_, rfl⟩ ?_
      refine Go_dup d_M_type_39 rfl ?_
      refine Go_get d_M_type_40 fm_4 ?_
      rw [st3_j (by decide)]
      refine Go_const d_M_type_43 ?_
      refine Go_iadd d_M_type_44 ?_
      refine Go_put d_M_type_45 (wm_4 _) rfl rfl ?_
      refine Go_aload d_M_type_48 lg0 ⟨_, rfl⟩ ?_
      refine Go_get d_M_type_49 fm_4 ?_
      rw [st3_s]
      exact Go_iretI d_M_type_52 (Or.inr (Or.inr ⟨by omega, by omega, rfl, rfl⟩))
    · refine Go_const d_M_type_25 ?_
      exact Go_iretI d_M_type_27 (Or.inr (Or.inl ⟨by omega, h22, rfl, rfl⟩))
  · refine Go_const d_M_type_14 ?_
    exact Go_iretI d_M_type_15 (Or.inl ⟨by omega, rfl, rfl⟩)
theorem st3_id {S : St} {c j i : Nat} {x : Int} (h : x = S c j i) : st3 S c j i x = S := by
  funext a b k
  unfold st3
  split
  next q => rw [q.1, q.2.1, q.2.2, h]
  next => rfl
theorem st3_st3 (S : St) (c j i : Nat) (x y : Int) : st3 (st3 S c j i x) c j i y = st3 S c j i y := by
  funext a b k
  unfold st3
  split <;> rfl
theorem c_M_here (hT : TOk (S 22 3) (S 22 4 0)) (hp : 0 ≤ S 22 5 0 ∧ S 22 5 0 ≤ S 22 4 0) : Fn G k_M_here [oR G 22] S (PI (fun z S1 => z = sg (S 22 3) (S 22 4 0) (skp (S 22 3) (S 22 4 0) (S 22 5 0)) ∧ S1 = st3 S 22 5 0 (skp (S 22 3) (S 22 4 0) (S 22 5 0)))) := by
  refine Fn.of [some (oR G 22)] 0 rfl (by decide +kernel) rfl (Nat.le_of_ble_eq_true rfl) (by decide) ?_

  obtain ⟨hL, hC⟩ := id hT
  have loop : ∀ (n : Nat) (p : Int), S 22 4 0 - p = n → 0 ≤ p → skp (S 22 3) (S 22 4 0) p = skp (S 22 3) (S 22 4 0) (S 22 5 0) → Go G k_M_here 0 [some (oR G 22)] [] (st3 S 22 5 0 p) (PI (fun z S1 => z = sg (S 22 3) (S 22 4 0) (skp (S 22 3) (S 22 4 0) (S 22 5 0)) ∧ S1 = st3 S 22 5 0 (skp (S 22 3) (S 22 4 0) (S 22 5 0)))) := by
    intro n
    induction n with
    | zero =>
      intro p hn h0 hs
      have e5 : st3 S 22 5 0 p 22 5 0 = p := st3_s _ _ _ _ _
      have e4 : st3 S 22 5 0 p 22 4 0 = S 22 4 0 := st3_j (by decide)
      have hse := skp_en (T := S 22 3) (L := S 22 4 0) (p := p) (by omega)
      refine Go_aload d_M_here_0 lg0 ⟨_, rfl⟩ ?_
      refine Go_get d_M_here_1 fm_5 ?_
      refine Go_aload d_M_here_4 lg0 ⟨_, rfl⟩ ?_
      refine Go_get d_M_here_5 fm_4 ?_
      refine Go_icmp_ge d_M_here_8 (by rw [e5]; omega) (by rw [e4]; omega) (fun h8 => ?_) (fun h8 => absurd h8 (by rw [e5, e4]; omega))
      refine Go_aload d_M_here_38 lg0 ⟨_, rfl⟩ ?_
      refine Go_get d_M_here_39 fm_5 ?_
      refine Go_aload d_M_here_42 lg0 ⟨_, rfl⟩ ?_
      refine Go_get d_M_here_43 fm_4 ?_
      refine Go_icmp_ge d_M_here_46 (by rw [e5]; omega) (by rw [e4]; omega) (fun h46 => ?_) (fun h46 => absurd h46 (by rw [e5, e4]; omega))
      refine Go_const d_M_here_61 ?_
      exact Go_iretI d_M_here_62 ⟨by rw [← hs, hse]; unfold sg; rw [if_neg (by omega)], by rw [← hs, hse]⟩
    | succ n ih =>
      intro p hn h0 hs
      have e5 : st3 S 22 5 0 p 22 5 0 = p := st3_s _ _ _ _ _
      have e4 : st3 S 22 5 0 p 22 4 0 = S 22 4 0 := st3_j (by decide)
      have e3 : ∀ k, st3 S 22 5 0 p 22 3 k = S 22 3 k := fun k => st3_j (by decide)
      have hc := hC p.toNat (by omega)
      refine Go_aload d_M_here_0 lg0 ⟨_, rfl⟩ ?_
      refine Go_get d_M_here_1 fm_5 ?_
      refine Go_aload d_M_here_4 lg0 ⟨_, rfl⟩ ?_
      refine Go_get d_M_here_5 fm_4 ?_
      refine Go_icmp_ge d_M_here_8 (by rw [e5]; omega) (by rw [e4]; omega) (fun h8 => absurd h8 (by rw [e5, e4]; omega)) (fun h8 => ?_)
      refine Go_aload d_M_here_11 lg0 ⟨_, rfl⟩ ?_
      refine Go_get d_M_here_12 fm_3 ?_
      refine Go_aload d_M_here_15 lg0 ⟨_, rfl⟩ ?_
      refine Go_get d_M_here_16 fm_5 ?_
      refine Go_iald d_M_here_19 am_3 (by rw [e5]; omega) ?_
      refine Go_const d_M_here_20 ?_
      refine Go_icmp_ne d_M_here_22 (by rw [e3, e5]; omega) (by omega) (fun h22 => ?_) (fun h22 => ?_)
      · refine Go_aload d_M_here_38 lg0 ⟨_, rfl⟩ ?_
        refine Go_get d_M_here_39 fm_5 ?_
        refine Go_aload d_M_here_42 lg0 ⟨_, rfl⟩ ?_
        refine Go_get d_M_here_43 fm_4 ?_
        refine Go_icmp_ge d_M_here_46 (by rw [e5]; omega) (by rw [e4]; omega) (fun h46 => absurd h46 (by rw [e5, e4]; omega)) (fun h46 => ?_)
        refine Go_aload d_M_here_49 lg0 ⟨_, rfl⟩ ?_
        refine Go_get d_M_here_50 fm_3 ?_
        refine Go_aload d_M_here_53 lg0 ⟨_, rfl⟩ ?_
        refine Go_get d_M_here_54 fm_5 ?_
        refine Go_iald d_M_here_57 am_3 (by rw [e5]; omega) ?_
        refine Go_goto d_M_here_58 ?_
        rw [e3, e5] at h22
        have hse := skp_en (T := S 22 3) (L := S 22 4 0) (p := p) (by omega)
        exact Go_iretI d_M_here_62 ⟨by rw [← hs, hse, e3, e5]; unfold sg; rw [if_pos (by omega)], by rw [← hs, hse]⟩
      · refine Go_aload d_M_here_25 lg0 ⟨_, rfl⟩ ?_
        refine Go_dup d_M_here_26 rfl ?_
        refine Go_get d_M_here_27 fm_5 ?_
        refine Go_const d_M_here_30 ?_
        refine Go_iadd d_M_here_31 ?_
        refine Go_put d_M_here_32 (wm_5 _) rfl rfl ?_
        refine Go_goto d_M_here_35 ?_
        rw [e3, e5] at h22
        rw [e5, st3_st3]
        exact ih (p + 1) (by omega) (by omega) (by rw [← skp_st (by omega) h22, hs])
  have e : S = st3 S 22 5 0 (S 22 5 0) := (st3_id rfl).symm
  rw [e]
  have := loop (S 22 4 0 - S 22 5 0).toNat (S 22 5 0) (by omega) hp.1 rfl
  rw [← e] at this ⊢
  exact this
end Model6
