section Model10
variable {G : GT} {S : St}
theorem ltr_S {N : Row} {p i : Int} {c : Int} (hc : 0 ≤ c) {j g : Int} (h : ltr N p c.toNat i = some (j, g)) : ltr N p (c + 1).toNat i = if 12 ≤ j then none else some ((stL N p j).1, g + (stL N p j).2) := by
  rw [show (c + 1).toNat = c.toNat + 1 by omega]
  show (match ltr N p c.toNat i with | none => none | some (j, g) => if 12 ≤ j then none else some ((stL N p j).1, g + (stL N p j).2)) = _
  rw [h]
theorem soF_S {N : Row} {p : Int} {IT : Row} {a : Nat} {k i j g : Int} (hk : 0 ≤ k) (h : soF N p IT a k.toNat = some i) (h2 : ltr N p (IT (a + 2 * k.toNat)).toNat i = some (j, g)) : soF N p IT a (k + 1).toNat = if g + (stT N p j).2 = IT (a + 2 * k.toNat + 1) then some (stT N p j).1 else none := by
  rw [show (k + 1).toNat = k.toNat + 1 by omega]
  show (match soF N p IT a k.toNat with | none => none | some i => match ltr N p (IT (a + 2 * k.toNat)).toNat i with | none => none | some (j, g) => if g + (stT N p j).2 = IT (a + 2 * k.toNat + 1) then some (stT N p j).1 else none) = _
  rw [h]
  dsimp only
  rw [h2]
theorem soF_N {N : Row} {p : Int} {IT : Row} {a : Nat} {k i : Int} (hk : 0 ≤ k) (h : soF N p IT a k.toNat = some i) (h2 : ltr N p (IT (a + 2 * k.toNat)).toNat i = none) : soF N p IT a (k + 1).toNat = none := by
  rw [show (k + 1).toNat = k.toNat + 1 by omega]
  show (match soF N p IT a k.toNat with | none => none | some i => match ltr N p (IT (a + 2 * k.toNat)).toNat i with | none => none | some (j, g) => if g + (stT N p j).2 = IT (a + 2 * k.toNat + 1) then some (stT N p j).1 else none) = _
  rw [h]
  dsimp only
  rw [h2]
set_option maxHeartbeats 4000000 in
theorem c_M_isSo (p a n : Int) (hp : 0 ≤ p ∧ p ≤ 3) (ha : 0 ≤ a) (hn : 0 ≤ n ∧ n ≤ 8) (han : a + 2 * n ≤ 96) (h : NR (S 22 0)) (hI : ∀ k : Nat, (k : Int) < n → (0 ≤ S 22 14 (a.toNat + 2 * k) ∧ S 22 14 (a.toNat + 2 * k) ≤ 9) ∧ (0 ≤ S 22 14 (a.toNat + 2 * k + 1) ∧ S 22 14 (a.toNat + 2 * k + 1) ≤ 40)) : Fn G k_M_isSo [oR G 22, vI p, vI a, vI n] S (PV (vI (bI ((soF (S 22 0) p (S 22 14) a.toNat n.toNat).isSome = true))) S) := by
  obtain ⟨hr, i0, i1, i2, i3, i4, i5, i6⟩ := id h
  refine Fn.of [some (oR G 22), some (vI p), some (vI a), some (vI n), none, none, none, none, none, none, none] 7 rfl (by decide +kernel) rfl (Nat.le_of_ble_eq_true rfl) (by decide) ?_

  have outer := loopI (fun k => ∀ i, soF (S 22 0) p (S 22 14) a.toNat k.toNat = some i → Go G k_M_isSo 9 [some (oR G 22), some (vI p), some (vI a), some (vI n), some (vI i), some (vI 1), some (vI k), none, none, none, none] [] S (PV (vI (bI ((soF (S 22 0) p (S 22 14) a.toNat n.toNat).isSome = true))) S)) n ?_ ?_
  refine Go_const d_M_isSo_0 ?_
  refine Go_istore d_M_isSo_1 rfl sa4 ?_
  refine Go_const d_M_isSo_3 ?_
  refine Go_istore d_M_isSo_4 rfl sa5 ?_
  refine Go_const d_M_isSo_6 ?_
  refine Go_istore d_M_isSo_7 rfl sa6 ?_
  exact outer 0 (by omega) (by omega) 0 rfl
  · intro i hi
    refine Go_iload d_M_isSo_9 lg6 ?_
    refine Go_iload d_M_isSo_11 lg3 ?_
    refine Go_icmp_ge d_M_isSo_12 (by omega) (by omega) (fun h12 => ?_) (fun h12 => absurd h12 (by omega))
    refine Go_iload d_M_isSo_206 lg5 ?_
    exact Go_zretV d_M_isSo_208 (by decide) (by rw [hi]; rfl)
  · intro k h0 h1 ih i hi
    have hir := soF_rg h hp k.toNat i (by omega) hi
    obtain ⟨c1, c2⟩ := hI k.toNat (by omega)
    have ea : (a + 2 * k).toNat = a.toNat + 2 * k.toNat := by omega
    have eb : (a + 2 * k + 1).toNat = a.toNat + 2 * k.toNat + 1 := by omega
    have dead : soF (S 22 0) p (S 22 14) a.toNat (k + 1).toNat = none → (0 : Int) = bI ((soF (S 22 0) p (S 22 14) a.toNat n.toNat).isSome = true) := by
      intro hq
      have := soF_z hq (n - (k + 1)).toNat
      rw [show (k + 1).toNat + (n - (k + 1)).toNat = n.toNat by omega] at this
      rw [this]
      rfl
    have inner := loopI (fun c => ∀ j g, ltr (S 22 0) p c.toNat i = some (j, g) → Go G k_M_isSo 26 [some (oR G 22), some (vI p), some (vI a), some (vI n), some (vI j), some (vI 1), some (vI k), some (vI g), some (vI c), none, none] [] S (PV (vI (bI ((soF (S 22 0) p (S 22 14) a.toNat n.toNat).isSome = true))) S)) (S 22 14 (a.toNat + 2 * k.toNat)) ?_ ?_
    refine Go_iload d_M_isSo_9 lg6 ?_
    refine Go_iload d_M_isSo_11 lg3 ?_
    refine Go_icmp_ge d_M_isSo_12 (by omega) (by omega) (fun h12 => absurd h12 (by omega)) (fun h12 => ?_)
    refine Go_iload d_M_isSo_15 lg5 ?_
    refine Go_if_eq d_M_isSo_17 (by decide) (fun h => absurd h (by decide)) (fun _ => ?_)
    refine Go_const d_M_isSo_20 ?_
    refine Go_istore d_M_isSo_21 rfl sa7 ?_
    refine Go_const d_M_isSo_23 ?_
    refine Go_istore d_M_isSo_24 rfl sa8 ?_
    exact inner 0 (by omega) (by omega) i 0 rfl
    · intro j g hl
      have hjr := ltr_rg h hp (by omega) _ j g hl
      have htr := stT_rg h hp (i := j) (by omega)
      have hS := soF_S h0 hi hl
      refine Go_iload d_M_isSo_26 lg8 ?_
      refine Go_i2l d_M_isSo_28 (by omega) ?_
      refine Go_aload d_M_isSo_29 lg0 ⟨_, rfl⟩ ?_
      refine Go_get d_M_isSo_30 fm_14 ?_
      refine Go_iload d_M_isSo_33 lg2 ?_
      refine Go_const d_M_isSo_34 ?_
      refine Go_iload d_M_isSo_35 lg6 ?_
      refine Go_imul d_M_isSo_37 ?_
      refine Go_iadd d_M_isSo_38 ?_
      refine Go_lald d_M_isSo_39 am_14 (by omega) ?_
      refine Go_lcmp d_M_isSo_40 (by omega) (by rw [ea]; omega) ?_
      refine Go_ifc_gt d_M_isSo_41 (fun h41 => absurd h41 (by rw [ea]; omega)) (fun h41 => ?_)
      refine Go_iload d_M_isSo_44 lg5 ?_
      refine Go_if_eq d_M_isSo_46 (by decide) (fun h => absurd h (by decide)) (fun _ => ?_)
      refine Go_iload d_M_isSo_49 lg8 ?_
      refine Go_i2l d_M_isSo_51 (by omega) ?_
      refine Go_aload d_M_isSo_52 lg0 ⟨_, rfl⟩ ?_
      refine Go_get d_M_isSo_53 fm_14 ?_
      refine Go_iload d_M_isSo_56 lg2 ?_
      refine Go_const d_M_isSo_57 ?_
      refine Go_iload d_M_isSo_58 lg6 ?_
      refine Go_imul d_M_isSo_60 ?_
      refine Go_iadd d_M_isSo_61 ?_
      refine Go_lald d_M_isSo_62 am_14 (by omega) ?_
      refine Go_lcmp d_M_isSo_63 (by omega) (by rw [ea]; omega) ?_
      refine Go_ifc_ne d_M_isSo_64 (fun h64 => absurd h64 (by rw [ea]; omega)) (fun h64 => ?_)
      refine Go_const d_M_isSo_67 ?_
      refine Go_goto d_M_isSo_68 ?_
      refine Go_istore d_M_isSo_72 rfl sa9 ?_
      refine Go_iload d_M_isSo_74 lg9 ?_
      refine Go_if_ne d_M_isSo_76 (by decide) (fun _ => ?_) (fun h => absurd h (by decide))
      refine Go_const d_M_isSo_86 ?_
      refine Go_goto d_M_isSo_87 ?_
      refine Go_istore d_M_isSo_91 rfl sa5 ?_
      refine Go_iload d_M_isSo_93 lg4 ?_
      refine Go_iload d_M_isSo_95 lg9 ?_
      refine Go_if_eq d_M_isSo_97 (by decide) (fun h => absurd h (by decide)) (fun _ => ?_)
      refine Go_const d_M_isSo_100 ?_
      refine Go_goto d_M_isSo_101 ?_
      refine Go_iadd d_M_isSo_105 ?_
      try rw [Int.add_zero]
      refine Go_istore d_M_isSo_106 rfl sa4 ?_
      refine Go_iload d_M_isSo_108 lg5 ?_
      refine Go_if_eq d_M_isSo_110 (by decide) (fun h => absurd h (by decide)) (fun _ => ?_)
      refine Go_aload d_M_isSo_113 lg0 ⟨_, rfl⟩ ?_
      refine Go_iload d_M_isSo_114 lg1 ?_
      refine Go_iload d_M_isSo_115 lg9 ?_
      refine Go_iload d_M_isSo_117 lg4 ?_
      rw [show vI 1 = vI (bI True) from rfl]
      refine Go_V3p d_M_isSo_119 kM (c_M_begins _ _ True (by omega) (by omega) (by omega) (by omega)) (Nat.le_of_ble_eq_true rfl) ?_
      refine Go_ifeq_d d_M_isSo_122 (fun h122 => ?_) (fun h122 => ?_)
      · refine Go_iinc d_M_isSo_162 lg8 rfl sa8 ?_
        refine Go_goto d_M_isSo_165 ?_
        have hst : stT (S 22 0) p j = (j, 0) := by unfold stT; rw [cif_neg h122]
        rw [hst] at hS htr
        dsimp only at hS htr
        refine Go_iload d_M_isSo_26 lg8 ?_
        refine Go_i2l d_M_isSo_28 (by omega) ?_
        refine Go_aload d_M_isSo_29 lg0 ⟨_, rfl⟩ ?_
        refine Go_get d_M_isSo_30 fm_14 ?_
        refine Go_iload d_M_isSo_33 lg2 ?_
        refine Go_const d_M_isSo_34 ?_
        refine Go_iload d_M_isSo_35 lg6 ?_
        refine Go_imul d_M_isSo_37 ?_
        refine Go_iadd d_M_isSo_38 ?_
        refine Go_lald d_M_isSo_39 am_14 (by omega) ?_
        refine Go_lcmp d_M_isSo_40 (by omega) (by rw [ea]; omega) ?_
        refine Go_ifc_gt d_M_isSo_41 (fun h41 => ?_) (fun h41 => absurd h41 (by rw [ea]; omega))
        refine Go_iload d_M_isSo_168 lg5 ?_
        refine Go_if_eq d_M_isSo_170 (by decide) (fun h => absurd h (by decide)) (fun _ => ?_)
        refine Go_iload d_M_isSo_173 lg7 ?_
        refine Go_i2l d_M_isSo_175 (by omega) ?_
        refine Go_aload d_M_isSo_176 lg0 ⟨_, rfl⟩ ?_
        refine Go_get d_M_isSo_177 fm_14 ?_
        refine Go_iload d_M_isSo_180 lg2 ?_
        refine Go_const d_M_isSo_181 ?_
        refine Go_iload d_M_isSo_182 lg6 ?_
        refine Go_imul d_M_isSo_184 ?_
        refine Go_iadd d_M_isSo_185 ?_
        refine Go_const d_M_isSo_186 ?_
        refine Go_iadd d_M_isSo_187 ?_
        refine Go_lald d_M_isSo_188 am_14 (by omega) ?_
        refine Go_lcmp d_M_isSo_189 (by omega) (by rw [eb]; omega) ?_
        refine Go_ifc_ne d_M_isSo_190 (fun h190 => ?_) (fun h190 => ?_)
        · refine Go_const d_M_isSo_197 ?_
          refine Go_istore d_M_isSo_198 rfl sa5 ?_
          refine Go_iinc d_M_isSo_200 lg6 rfl sa6 ?_
          refine Go_goto d_M_isSo_203 ?_
          refine Go_iload d_M_isSo_9 lg6 ?_
          refine Go_iload d_M_isSo_11 lg3 ?_
          refine Go_icmp_ge d_M_isSo_12 (by omega) (by omega) (fun h12 => ?_) (fun h12 => ?_)
          · refine Go_iload d_M_isSo_206 lg5 ?_
            rw [eb] at h190
            exact Go_zretV d_M_isSo_208 (by decide) (dead (by rw [hS, if_neg (by omega)]))
          · refine Go_iload d_M_isSo_15 lg5 ?_
            refine Go_if_eq d_M_isSo_17 (by decide) (fun _ => ?_) (fun h => absurd h (by decide))
            refine Go_iload d_M_isSo_206 lg5 ?_
            rw [eb] at h190
            exact Go_zretV d_M_isSo_208 (by decide) (dead (by rw [hS, if_neg (by omega)]))
        · refine Go_const d_M_isSo_193 ?_
          refine Go_goto d_M_isSo_194 ?_
          refine Go_istore d_M_isSo_198 rfl sa5 ?_
          refine Go_iinc d_M_isSo_200 lg6 rfl sa6 ?_
          refine Go_goto d_M_isSo_203 ?_
          rw [eb] at h190
          first
            | (rw [if_pos (by omega)] at hS
               exact fg7 (fg8 (fg9 (fg10 (ih _ (by rw [hS]; try rw [Int.add_zero]))))))
      · refine Go_aload d_M_isSo_125 lg0 ⟨_, rfl⟩ ?_
        refine Go_iload d_M_isSo_126 lg1 ?_
        refine Go_iload d_M_isSo_127 lg4 ?_
        refine Go_aload d_M_isSo_129 lg0 ⟨_, rfl⟩ ?_
        refine Go_get d_M_isSo_130 fm_0 ?_
        refine Go_const d_M_isSo_133 ?_
        refine Go_ialdC (k0 := 3) d_M_isSo_134 am_0 rfl (by decide) ?_
        refine Go_iadd d_M_isSo_135 ?_
        refine Go_V2p d_M_isSo_136 kM (c_M_share _ _ (by omega) (by omega) (by omega)) (Nat.le_of_ble_eq_true rfl) ?_
        refine Go_istore d_M_isSo_139 rfl sa10 ?_
        refine Go_iload d_M_isSo_141 lg7 ?_
        refine Go_iload d_M_isSo_143 lg10 ?_
        refine Go_iadd d_M_isSo_145 ?_
        refine Go_istore d_M_isSo_146 rfl sa7 ?_
        refine Go_iload d_M_isSo_148 lg4 ?_
        refine Go_aload d_M_isSo_150 lg0 ⟨_, rfl⟩ ?_
        refine Go_get d_M_isSo_151 fm_0 ?_
        refine Go_const d_M_isSo_154 ?_
        refine Go_ialdC (k0 := 3) d_M_isSo_155 am_0 rfl (by decide) ?_
        refine Go_iload d_M_isSo_156 lg10 ?_
        refine Go_isub d_M_isSo_158 ?_
        refine Go_iadd d_M_isSo_159 ?_
        refine Go_istore d_M_isSo_160 rfl sa4 ?_
        refine Go_iinc d_M_isSo_162 lg8 rfl sa8 ?_
        refine Go_goto d_M_isSo_165 ?_
        have hst : stT (S 22 0) p j = (j + (S 22 0 3 - shr (S 22 0) p (j + S 22 0 3)), shr (S 22 0) p (j + S 22 0 3)) := by unfold stT; rw [cif_pos h122]
        rw [hst] at hS htr
        dsimp only at hS htr
        refine Go_iload d_M_isSo_26 lg8 ?_
        refine Go_i2l d_M_isSo_28 (by omega) ?_
        refine Go_aload d_M_isSo_29 lg0 ⟨_, rfl⟩ ?_
        refine Go_get d_M_isSo_30 fm_14 ?_
        refine Go_iload d_M_isSo_33 lg2 ?_
        refine Go_const d_M_isSo_34 ?_
        refine Go_iload d_M_isSo_35 lg6 ?_
        refine Go_imul d_M_isSo_37 ?_
        refine Go_iadd d_M_isSo_38 ?_
        refine Go_lald d_M_isSo_39 am_14 (by omega) ?_
        refine Go_lcmp d_M_isSo_40 (by omega) (by rw [ea]; omega) ?_
        refine Go_ifc_gt d_M_isSo_41 (fun h41 => ?_) (fun h41 => absurd h41 (by rw [ea]; omega))
        refine Go_iload d_M_isSo_168 lg5 ?_
        refine Go_if_eq d_M_isSo_170 (by decide) (fun h => absurd h (by decide)) (fun _ => ?_)
        refine Go_iload d_M_isSo_173 lg7 ?_
        refine Go_i2l d_M_isSo_175 (by omega) ?_
        refine Go_aload d_M_isSo_176 lg0 ⟨_, rfl⟩ ?_
        refine Go_get d_M_isSo_177 fm_14 ?_
        refine Go_iload d_M_isSo_180 lg2 ?_
        refine Go_const d_M_isSo_181 ?_
        refine Go_iload d_M_isSo_182 lg6 ?_
        refine Go_imul d_M_isSo_184 ?_
        refine Go_iadd d_M_isSo_185 ?_
        refine Go_const d_M_isSo_186 ?_
        refine Go_iadd d_M_isSo_187 ?_
        refine Go_lald d_M_isSo_188 am_14 (by omega) ?_
        refine Go_lcmp d_M_isSo_189 (by omega) (by rw [eb]; omega) ?_
        refine Go_ifc_ne d_M_isSo_190 (fun h190 => ?_) (fun h190 => ?_)
        · refine Go_const d_M_isSo_197 ?_
          refine Go_istore d_M_isSo_198 rfl sa5 ?_
          refine Go_iinc d_M_isSo_200 lg6 rfl sa6 ?_
          refine Go_goto d_M_isSo_203 ?_
          refine Go_iload d_M_isSo_9 lg6 ?_
          refine Go_iload d_M_isSo_11 lg3 ?_
          refine Go_icmp_ge d_M_isSo_12 (by omega) (by omega) (fun h12 => ?_) (fun h12 => ?_)
          · refine Go_iload d_M_isSo_206 lg5 ?_
            rw [eb] at h190
            exact Go_zretV d_M_isSo_208 (by decide) (dead (by rw [hS, if_neg (by omega)]))
          · refine Go_iload d_M_isSo_15 lg5 ?_
            refine Go_if_eq d_M_isSo_17 (by decide) (fun _ => ?_) (fun h => absurd h (by decide))
            refine Go_iload d_M_isSo_206 lg5 ?_
            rw [eb] at h190
            exact Go_zretV d_M_isSo_208 (by decide) (dead (by rw [hS, if_neg (by omega)]))
        · refine Go_const d_M_isSo_193 ?_
          refine Go_goto d_M_isSo_194 ?_
          refine Go_istore d_M_isSo_198 rfl sa5 ?_
          refine Go_iinc d_M_isSo_200 lg6 rfl sa6 ?_
          refine Go_goto d_M_isSo_203 ?_
          rw [eb] at h190
          first
            | (rw [if_pos (by omega)] at hS
               exact fg7 (fg8 (fg9 (fg10 (ih _ (by rw [hS]; try rw [Int.add_zero]))))))
    · intro c hc0 hc1 ihc j g hl
      have hjr := ltr_rg h hp (by omega) _ j g hl
      have htr := stL_rg h hp (i := j) (by omega)
      have hS := ltr_S hc0 hl

      refine Go_iload d_M_isSo_26 lg8 ?_
      refine Go_i2l d_M_isSo_28 (by omega) ?_
      refine Go_aload d_M_isSo_29 lg0 ⟨_, rfl⟩ ?_
      refine Go_get d_M_isSo_30 fm_14 ?_
      refine Go_iload d_M_isSo_33 lg2 ?_
      refine Go_const d_M_isSo_34 ?_
      refine Go_iload d_M_isSo_35 lg6 ?_
      refine Go_imul d_M_isSo_37 ?_
      refine Go_iadd d_M_isSo_38 ?_
      refine Go_lald d_M_isSo_39 am_14 (by omega) ?_
      refine Go_lcmp d_M_isSo_40 (by omega) (by rw [ea]; omega) ?_
      refine Go_ifc_gt d_M_isSo_41 (fun h41 => absurd h41 (by rw [ea]; omega)) (fun h41 => ?_)
      refine Go_iload d_M_isSo_44 lg5 ?_
      refine Go_if_eq d_M_isSo_46 (by decide) (fun h => absurd h (by decide)) (fun _ => ?_)
      refine Go_iload d_M_isSo_49 lg8 ?_
      refine Go_i2l d_M_isSo_51 (by omega) ?_
      refine Go_aload d_M_isSo_52 lg0 ⟨_, rfl⟩ ?_
      refine Go_get d_M_isSo_53 fm_14 ?_
      refine Go_iload d_M_isSo_56 lg2 ?_
      refine Go_const d_M_isSo_57 ?_
      refine Go_iload d_M_isSo_58 lg6 ?_
      refine Go_imul d_M_isSo_60 ?_
      refine Go_iadd d_M_isSo_61 ?_
      refine Go_lald d_M_isSo_62 am_14 (by omega) ?_
      refine Go_lcmp d_M_isSo_63 (by omega) (by rw [ea]; omega) ?_
      refine Go_ifc_ne d_M_isSo_64 (fun h64 => ?_) (fun h64 => absurd h64 (by rw [ea]; omega))
      refine Go_const d_M_isSo_71 ?_
      refine Go_istore d_M_isSo_72 rfl sa9 ?_
      refine Go_iload d_M_isSo_74 lg9 ?_
      refine Go_if_ne d_M_isSo_76 (by decide) (fun h => absurd h (by decide)) (fun _ => ?_)
      refine Go_iload d_M_isSo_79 lg4 ?_
      refine Go_const d_M_isSo_81 ?_
      refine Go_icmp_ge d_M_isSo_83 (by omega) (by omega) (fun h83 => ?_) (fun h83 => ?_)
      · refine Go_const d_M_isSo_90 ?_
        refine Go_istore d_M_isSo_91 rfl sa5 ?_
        refine Go_iload d_M_isSo_93 lg4 ?_
        refine Go_iload d_M_isSo_95 lg9 ?_
        refine Go_if_eq d_M_isSo_97 (by decide) (fun _ => ?_) (fun h => absurd h (by decide))
        refine Go_const d_M_isSo_104 ?_
        refine Go_iadd d_M_isSo_105 ?_
        refine Go_istore d_M_isSo_106 rfl sa4 ?_
        refine Go_iload d_M_isSo_108 lg5 ?_
        refine Go_if_eq d_M_isSo_110 (by decide) (fun _ => ?_) (fun h => absurd h (by decide))
        refine Go_iinc d_M_isSo_162 lg8 rfl sa8 ?_
        refine Go_goto d_M_isSo_165 ?_
        rw [if_pos (by omega)] at hS
        have hz : ltr (S 22 0) p (S 22 14 (a.toNat + 2 * k.toNat)).toNat i = none := by
          have := ltr_z hS (S 22 14 (a.toNat + 2 * k.toNat) - (c + 1)).toNat
          rw [show (c + 1).toNat + (S 22 14 (a.toNat + 2 * k.toNat) - (c + 1)).toNat = (S 22 14 (a.toNat + 2 * k.toNat)).toNat by omega] at this
          exact this
        refine Go_iload d_M_isSo_26 lg8 ?_
        refine Go_i2l d_M_isSo_28 (by omega) ?_
        refine Go_aload d_M_isSo_29 lg0 ⟨_, rfl⟩ ?_
        refine Go_get d_M_isSo_30 fm_14 ?_
        refine Go_iload d_M_isSo_33 lg2 ?_
        refine Go_const d_M_isSo_34 ?_
        refine Go_iload d_M_isSo_35 lg6 ?_
        refine Go_imul d_M_isSo_37 ?_
        refine Go_iadd d_M_isSo_38 ?_
        refine Go_lald d_M_isSo_39 am_14 (by omega) ?_
        refine Go_lcmp d_M_isSo_40 (by omega) (by rw [ea]; omega) ?_
        refine Go_ifc_gt d_M_isSo_41 (fun h41 => ?_) (fun h41 => ?_)
        · refine Go_iload d_M_isSo_168 lg5 ?_
          refine Go_if_eq d_M_isSo_170 (by decide) (fun _ => ?_) (fun h => absurd h (by decide))
          refine Go_const d_M_isSo_197 ?_
          refine Go_istore d_M_isSo_198 rfl sa5 ?_
          refine Go_iinc d_M_isSo_200 lg6 rfl sa6 ?_
          refine Go_goto d_M_isSo_203 ?_
          refine Go_iload d_M_isSo_9 lg6 ?_
          refine Go_iload d_M_isSo_11 lg3 ?_
          refine Go_icmp_ge d_M_isSo_12 (by omega) (by omega) (fun h12 => ?_) (fun h12 => ?_)
          · refine Go_iload d_M_isSo_206 lg5 ?_
            exact Go_zretV d_M_isSo_208 (by decide) (dead (soF_N h0 hi hz))
          · refine Go_iload d_M_isSo_15 lg5 ?_
            refine Go_if_eq d_M_isSo_17 (by decide) (fun _ => ?_) (fun h => absurd h (by decide))
            refine Go_iload d_M_isSo_206 lg5 ?_
            exact Go_zretV d_M_isSo_208 (by decide) (dead (soF_N h0 hi hz))
        · refine Go_iload d_M_isSo_44 lg5 ?_
          refine Go_if_eq d_M_isSo_46 (by decide) (fun _ => ?_) (fun h => absurd h (by decide))
          refine Go_iload d_M_isSo_168 lg5 ?_
          refine Go_if_eq d_M_isSo_170 (by decide) (fun _ => ?_) (fun h => absurd h (by decide))
          refine Go_const d_M_isSo_197 ?_
          refine Go_istore d_M_isSo_198 rfl sa5 ?_
          refine Go_iinc d_M_isSo_200 lg6 rfl sa6 ?_
          refine Go_goto d_M_isSo_203 ?_
          refine Go_iload d_M_isSo_9 lg6 ?_
          refine Go_iload d_M_isSo_11 lg3 ?_
          refine Go_icmp_ge d_M_isSo_12 (by omega) (by omega) (fun h12 => ?_) (fun h12 => ?_)
          · refine Go_iload d_M_isSo_206 lg5 ?_
            exact Go_zretV d_M_isSo_208 (by decide) (dead (soF_N h0 hi hz))
          · refine Go_iload d_M_isSo_15 lg5 ?_
            refine Go_if_eq d_M_isSo_17 (by decide) (fun _ => ?_) (fun h => absurd h (by decide))
            refine Go_iload d_M_isSo_206 lg5 ?_
            exact Go_zretV d_M_isSo_208 (by decide) (dead (soF_N h0 hi hz))
      · refine Go_const d_M_isSo_86 ?_
        refine Go_goto d_M_isSo_87 ?_
        refine Go_istore d_M_isSo_91 rfl sa5 ?_
        refine Go_iload d_M_isSo_93 lg4 ?_
        refine Go_iload d_M_isSo_95 lg9 ?_
        refine Go_if_eq d_M_isSo_97 (by decide) (fun _ => ?_) (fun h => absurd h (by decide))
        refine Go_const d_M_isSo_104 ?_
        refine Go_iadd d_M_isSo_105 ?_
        refine Go_istore d_M_isSo_106 rfl sa4 ?_
        refine Go_iload d_M_isSo_108 lg5 ?_
        refine Go_if_eq d_M_isSo_110 (by decide) (fun h => absurd h (by decide)) (fun _ => ?_)
        refine Go_aload d_M_isSo_113 lg0 ⟨_, rfl⟩ ?_
        refine Go_iload d_M_isSo_114 lg1 ?_
        refine Go_iload d_M_isSo_115 lg9 ?_
        refine Go_iload d_M_isSo_117 lg4 ?_
        rw [show vI 0 = vI (bI False) from rfl]
        refine Go_V3p d_M_isSo_119 kM (c_M_begins _ _ False (by omega) (by omega) (by omega) (by omega)) (Nat.le_of_ble_eq_true rfl) ?_
        refine Go_ifeq_d d_M_isSo_122 (fun h122 => ?_) (fun h122 => ?_)
        · refine Go_iinc d_M_isSo_162 lg8 rfl sa8 ?_
          refine Go_goto d_M_isSo_165 ?_
          rw [if_neg (by omega)] at hS
          first
            | (have hst : stL (S 22 0) p j = (j + 1, 0) := by unfold stL; rw [cif_neg h122]
               rw [hst] at hS
               exact fg9 (fg10 (ihc _ _ (by rw [hS]; try rw [Int.add_zero]))))
            | (have hst : stL (S 22 0) p j = (j + 1 + (S 22 0 3 - shr (S 22 0) p (j + 1 + S 22 0 3)), shr (S 22 0) p (j + 1 + S 22 0 3)) := by unfold stL; rw [cif_pos h122]
               rw [hst] at hS
               exact fg9 (fg10 (ihc _ _ hS)))
        · refine Go_aload d_M_isSo_125 lg0 ⟨_, rfl⟩ ?_
          refine Go_iload d_M_isSo_126 lg1 ?_
          refine Go_iload d_M_isSo_127 lg4 ?_
          refine Go_aload d_M_isSo_129 lg0 ⟨_, rfl⟩ ?_
          refine Go_get d_M_isSo_130 fm_0 ?_
          refine Go_const d_M_isSo_133 ?_
          refine Go_ialdC (k0 := 3) d_M_isSo_134 am_0 rfl (by decide) ?_
          refine Go_iadd d_M_isSo_135 ?_
          refine Go_V2p d_M_isSo_136 kM (c_M_share _ _ (by omega) (by omega) (by omega)) (Nat.le_of_ble_eq_true rfl) ?_
          refine Go_istore d_M_isSo_139 rfl sa10 ?_
          refine Go_iload d_M_isSo_141 lg7 ?_
          refine Go_iload d_M_isSo_143 lg10 ?_
          refine Go_iadd d_M_isSo_145 ?_
          refine Go_istore d_M_isSo_146 rfl sa7 ?_
          refine Go_iload d_M_isSo_148 lg4 ?_
          refine Go_aload d_M_isSo_150 lg0 ⟨_, rfl⟩ ?_
          refine Go_get d_M_isSo_151 fm_0 ?_
          refine Go_const d_M_isSo_154 ?_
          refine Go_ialdC (k0 := 3) d_M_isSo_155 am_0 rfl (by decide) ?_
          refine Go_iload d_M_isSo_156 lg10 ?_
          refine Go_isub d_M_isSo_158 ?_
          refine Go_iadd d_M_isSo_159 ?_
          refine Go_istore d_M_isSo_160 rfl sa4 ?_
          refine Go_iinc d_M_isSo_162 lg8 rfl sa8 ?_
          refine Go_goto d_M_isSo_165 ?_
          rw [if_neg (by omega)] at hS
          first
            | (have hst : stL (S 22 0) p j = (j + 1, 0) := by unfold stL; rw [cif_neg h122]
               rw [hst] at hS
               exact fg9 (fg10 (ihc _ _ (by rw [hS]; try rw [Int.add_zero]))))
            | (have hst : stL (S 22 0) p j = (j + 1 + (S 22 0 3 - shr (S 22 0) p (j + 1 + S 22 0 3)), shr (S 22 0) p (j + 1 + S 22 0 3)) := by unfold stL; rw [cif_pos h122]
               rw [hst] at hS
               exact fg9 (fg10 (ihc _ _ hS)))
def itOk (IT : Row) (a : Nat) (k : Nat) : Prop := 0 ≤ IT (a + k) ∧ IT (a + k) ≤ (if k % 2 = 0 then 9 else 40)
noncomputable def fitsV (N LN SZ IT : Row) (s l i n : Int) : Int := cif ((0 ≤ s ∧ s ≤ 3) ∧ (0 ≤ l ∧ l ≤ 3) ∧ 1 ≤ n ∧ n ≤ 8) (if whyV LN SZ s l i (2 * n) < 0 then whyV LN SZ s l i (2 * n) else cif (∀ k : Nat, (k : Int) < 2 * n → itOk IT (24 * s + i).toNat k) (setF N IT (24 * s + i).toNat n.toNat 4) (-2)) (-1)
theorem c_M_fits (s l i n : Int) (hs : -2147483648 ≤ s ∧ s < 2147483648) (hl : -2147483648 ≤ l ∧ l < 2147483648) (hi : -2147483648 ≤ i ∧ i < 2147483648) (hn : -2147483648 ≤ n ∧ n < 2147483648) (h : ShOk S) (hN : NR (S 22 0)) : Fn G k_M_fits [oR G 22, vI s, vI l, vI i, vI n] S (PV (vI (fitsV (S 22 0) (S 22 12) (S 22 13) (S 22 14) s l i n)) S) := by
  have hc := whyV_c (S 22 12) (S 22 13) s l i (2 * n)
  refine Fn.of [some (oR G 22), some (vI s), some (vI l), some (vI i), some (vI n), none, none, none, none] 4 rfl (by decide +kernel) rfl (Nat.le_of_ble_eq_true rfl) (by decide) ?_

  have loop2 := loopI (fun q => ((0 ≤ s ∧ s ≤ 3) ∧ (0 ≤ l ∧ l ≤ 3) ∧ 1 ≤ n ∧ n ≤ 8) → 0 ≤ whyV (S 22 12) (S 22 13) s l i (2 * n) → (∀ k : Nat, (k : Int) < 2 * n → itOk (S 22 14) (24 * s + i).toNat k) → ∀ x, x = setF (S 22 0) (S 22 14) (24 * s + i).toNat n.toNat q.toNat → Go G k_M_fits 123 [some (oR G 22), some (vI s), some (vI l), some (vI i), some (vI n), some (vI (whyV (S 22 12) (S 22 13) s l i (2 * n))), some (vI (24 * s + i)), some (vI x), some (vI q)] [] S (PV (vI (fitsV (S 22 0) (S 22 12) (S 22 13) (S 22 14) s l i n)) S)) 4 ?_ ?_
  have loop1 := loopI (fun k => ((0 ≤ s ∧ s ≤ 3) ∧ (0 ≤ l ∧ l ≤ 3) ∧ 1 ≤ n ∧ n ≤ 8) → 0 ≤ whyV (S 22 12) (S 22 13) s l i (2 * n) → (∀ q : Nat, (q : Int) < k → itOk (S 22 14) (24 * s + i).toNat q) → Go G k_M_fits 66 [some (oR G 22), some (vI s), some (vI l), some (vI i), some (vI n), some (vI (whyV (S 22 12) (S 22 13) s l i (2 * n))), some (vI (24 * s + i)), some (vI k), none] [] S (PV (vI (fitsV (S 22 0) (S 22 12) (S 22 13) (S 22 14) s l i n)) S)) (if 1 ≤ n then 2 * n else 0) ?_ ?_
  refine Go_iload d_M_fits_0 lg1 ?_
  refine Go_S1p d_M_fits_1 (c_M_isSheet _ (by omega)) (Nat.le_of_ble_eq_true rfl) ?_
  refine Go_ifeq_d d_M_fits_4 (fun h4 => ?_) (fun h4 => ?_)
  · refine Go_const d_M_fits_32 ?_
    exact Go_iretV d_M_fits_33 (by unfold fitsV; rw [cif_neg (by omega)])
  · refine Go_iload d_M_fits_7 lg2 ?_
    refine Go_i2l d_M_fits_8 (by omega) ?_
    refine Go_lconst d_M_fits_9 ?_
    refine Go_lconst d_M_fits_10 ?_
    refine Go_S3p d_M_fits_13 (c_M_in _ _ _ (by omega) (by omega) (by omega)) (Nat.le_of_ble_eq_true rfl) ?_
    refine Go_ifeq_d d_M_fits_16 (fun h16 => ?_) (fun h16 => ?_)
    · refine Go_const d_M_fits_32 ?_
      exact Go_iretV d_M_fits_33 (by unfold fitsV; rw [cif_neg (by omega)])
    · refine Go_iload d_M_fits_19 lg4 ?_
      refine Go_i2l d_M_fits_21 (by omega) ?_
      refine Go_lconst d_M_fits_22 ?_
      refine Go_lconst d_M_fits_23 ?_
      refine Go_S3p d_M_fits_26 (c_M_in _ _ _ (by omega) (by omega) (by omega)) (Nat.le_of_ble_eq_true rfl) ?_
      refine Go_ifne_d d_M_fits_29 (fun h29 => ?_) (fun h29 => ?_)
      · refine Go_aload d_M_fits_34 lg0 ⟨_, rfl⟩ ?_
        refine Go_iload d_M_fits_35 lg1 ?_
        refine Go_iload d_M_fits_36 lg2 ?_
        refine Go_iload d_M_fits_37 lg3 ?_
        refine Go_const d_M_fits_38 ?_
        refine Go_iload d_M_fits_39 lg4 ?_
        refine Go_imul d_M_fits_41 ?_
        refine Go_V4p d_M_fits_42 kM (c_M_why _ _ _ _ (by omega) (by omega) (by omega) (by omega) h) (Nat.le_of_ble_eq_true rfl) ?_
        refine Go_istore d_M_fits_45 rfl sa5 ?_
        refine Go_iload d_M_fits_47 lg5 ?_
        refine Go_if_ge d_M_fits_49 (by omega) (fun h49 => ?_) (fun h49 => ?_)
        · refine Go_const d_M_fits_55 ?_
          refine Go_iload d_M_fits_57 lg1 ?_
          refine Go_imul d_M_fits_58 ?_
          refine Go_iload d_M_fits_59 lg3 ?_
          refine Go_iadd d_M_fits_60 ?_
          refine Go_istore d_M_fits_61 rfl sa6 ?_
          refine Go_const d_M_fits_63 ?_
          refine Go_istore d_M_fits_64 rfl sa7 ?_
          exact loop1 0 (by omega) (by split <;> omega) (by omega) h49 (fun q hq => by omega)
        · refine Go_iload d_M_fits_52 lg5 ?_
          exact Go_iretV d_M_fits_54 (by unfold fitsV; rw [cif_pos (by omega), if_pos h49])
      · refine Go_const d_M_fits_32 ?_
        exact Go_iretV d_M_fits_33 (by unfold fitsV; rw [cif_neg (by omega)])
  · intro o1 o2 o3
    rw [if_pos (by omega)] at o3 ⊢
    refine Go_iload d_M_fits_66 lg7 ?_
    refine Go_const d_M_fits_68 ?_
    refine Go_iload d_M_fits_69 lg4 ?_
    refine Go_imul d_M_fits_71 ?_
    refine Go_icmp_ge d_M_fits_72 (by omega) (by omega) (fun h72 => ?_) (fun h72 => absurd h72 (by omega))
    refine Go_const d_M_fits_117 ?_
    refine Go_istore d_M_fits_118 rfl sa7 ?_
    refine Go_const d_M_fits_120 ?_
    refine Go_istore d_M_fits_121 rfl sa8 ?_
    exact loop2 0 (by omega) (by omega) o1 o2 o3 0 rfl
  · intro k h0 h1 ih o1 o2 o3
    rw [if_pos (by omega)] at h1
    obtain ⟨y1, y2, y3, y4⟩ := whyV_0 o2
    have ysz := (h.1 s.toNat (by omega)).2
    have y14 := h.2 (24 * s + i + k).toNat
    have ek : (24 * s + i + k).toNat = (24 * s + i).toNat + k.toNat := by omega
    refine Go_iload d_M_fits_66 lg7 ?_
    refine Go_const d_M_fits_68 ?_
    refine Go_iload d_M_fits_69 lg4 ?_
    refine Go_imul d_M_fits_71 ?_
    refine Go_icmp_ge d_M_fits_72 (by omega) (by omega) (fun h72 => absurd h72 (by omega)) (fun h72 => ?_)
    refine Go_aload d_M_fits_75 lg0 ⟨_, rfl⟩ ?_
    refine Go_get d_M_fits_76 fm_14 ?_
    refine Go_iload d_M_fits_79 lg6 ?_
    refine Go_iload d_M_fits_81 lg7 ?_
    refine Go_iadd d_M_fits_83 ?_
    refine Go_lald d_M_fits_84 am_14 (by omega) ?_
    refine Go_lconst d_M_fits_85 ?_
    refine Go_iload d_M_fits_86 lg7 ?_
    refine Go_const d_M_fits_88 ?_
    refine Go_irem d_M_fits_89 (by omega) (by omega) ?_
    refine Go_if_ne d_M_fits_90 (by omega) (fun h90 => ?_) (fun h90 => ?_)
    · refine Go_lconst d_M_fits_99 ?_
      refine Go_S3p d_M_fits_102 (c_M_in _ _ _ (by omega) (by omega) (by omega)) (Nat.le_of_ble_eq_true rfl) ?_
      refine Go_ifne_d d_M_fits_105 (fun h105 => ?_) (fun h105 => ?_)
      · refine Go_iinc d_M_fits_111 lg7 rfl sa7 ?_
        refine Go_goto d_M_fits_114 ?_
        refine ih o1 o2 (fun q hq => ?_)
        by_cases hqk : q = k.toNat
        · subst hqk
          unfold itOk
          rw [← ek]
          split <;> omega
        · exact o3 q (by omega)
      · refine Go_const d_M_fits_108 ?_
        exact Go_iretV d_M_fits_110 (by
          unfold fitsV
          rw [cif_pos o1, if_neg (by omega), cif_neg ?_]
          intro hall
          have := hall k.toNat (by omega)
          unfold itOk at this
          rw [← ek] at this
          split at this <;> omega)
    · refine Go_lconst d_M_fits_93 ?_
      refine Go_goto d_M_fits_96 ?_
      refine Go_S3p d_M_fits_102 (c_M_in _ _ _ (by omega) (by omega) (by omega)) (Nat.le_of_ble_eq_true rfl) ?_
      refine Go_ifne_d d_M_fits_105 (fun h105 => ?_) (fun h105 => ?_)
      · refine Go_iinc d_M_fits_111 lg7 rfl sa7 ?_
        refine Go_goto d_M_fits_114 ?_
        refine ih o1 o2 (fun q hq => ?_)
        by_cases hqk : q = k.toNat
        · subst hqk
          unfold itOk
          rw [← ek]
          split <;> omega
        · exact o3 q (by omega)
      · refine Go_const d_M_fits_108 ?_
        exact Go_iretV d_M_fits_110 (by
          unfold fitsV
          rw [cif_pos o1, if_neg (by omega), cif_neg ?_]
          intro hall
          have := hall k.toNat (by omega)
          unfold itOk at this
          rw [← ek] at this
          split at this <;> omega)
  · intro o1 o2 o3 x hx
    refine Go_iload d_M_fits_123 lg8 ?_
    refine Go_const d_M_fits_125 ?_
    refine Go_icmp_ge d_M_fits_126 (by omega) (by omega) (fun h126 => ?_) (fun h126 => absurd h126 (by omega))
    refine Go_iload d_M_fits_161 lg7 ?_
    exact Go_iretV d_M_fits_163 (by unfold fitsV; rw [cif_pos o1, if_neg (by omega), cif_pos o3, hx]; rfl)
  · intro q h0 h1 ih o1 o2 o3 x hx
    obtain ⟨y1, y2, y3, y4⟩ := whyV_0 o2
    have ysz := (h.1 s.toNat (by omega)).2
    have hxr := setF_rg (S 22 0) (S 22 14) (24 * s + i).toNat n.toNat q.toNat
    have hp2 : ((2 ^ q.toNat : Nat) : Int) ≤ 8 := by
      have : ∀ z, z < 4 → ((2 ^ z : Nat) : Int) ≤ 8 := by decide
      exact this q.toNat (by omega)
    have hp1 : (1 : Int) ≤ ((2 ^ q.toNat : Nat) : Int) := by have := Nat.pos_of_ne_zero (show 2 ^ q.toNat ≠ 0 by simp); omega
    have hI : ∀ k : Nat, (k : Int) < n → (0 ≤ S 22 14 ((24 * s + i).toNat + 2 * k) ∧ S 22 14 ((24 * s + i).toNat + 2 * k) ≤ 9) ∧ (0 ≤ S 22 14 ((24 * s + i).toNat + 2 * k + 1) ∧ S 22 14 ((24 * s + i).toNat + 2 * k + 1) ≤ 40) := by
      intro k hk
      have a1 := o3 (2 * k) (by omega)
      have a2 := o3 (2 * k + 1) (by omega)
      unfold itOk at a1 a2
      rw [if_pos (by omega)] at a1
      rw [if_neg (by omega)] at a2
      exact ⟨a1, a2⟩
    have eS : setF (S 22 0) (S 22 14) (24 * s + i).toNat n.toNat (q + 1).toNat = if (soF (S 22 0) q (S 22 14) (24 * s + i).toNat n.toNat).isSome then orI x ((2 ^ q.toNat : Nat) : Int) else x := by
      rw [show (q + 1).toNat = q.toNat + 1 by omega]
      show (if (soF (S 22 0) ((q.toNat : Nat) : Int) (S 22 14) (24 * s + i).toNat n.toNat).isSome then orI (setF (S 22 0) (S 22 14) (24 * s + i).toNat n.toNat q.toNat) ((2 ^ q.toNat : Nat) : Int) else setF (S 22 0) (S 22 14) (24 * s + i).toNat n.toNat q.toNat) = _
      rw [show ((q.toNat : Nat) : Int) = q by omega, ← hx]
    refine Go_iload d_M_fits_123 lg8 ?_
    refine Go_const d_M_fits_125 ?_
    refine Go_icmp_ge d_M_fits_126 (by omega) (by omega) (fun h126 => absurd h126 (by omega)) (fun h126 => ?_)
    refine Go_iload d_M_fits_129 lg7 ?_
    refine Go_aload d_M_fits_131 lg0 ⟨_, rfl⟩ ?_
    refine Go_iload d_M_fits_132 lg8 ?_
    refine Go_iload d_M_fits_134 lg6 ?_
    refine Go_iload d_M_fits_136 lg4 ?_
    refine Go_V3p d_M_fits_138 kM (c_M_isSo _ _ _ (by omega) (by omega) (by omega) (by omega) hN hI) (Nat.le_of_ble_eq_true rfl) ?_
    refine Go_ifeq_d d_M_fits_141 (fun h141 => ?_) (fun h141 => ?_)
    · refine Go_const d_M_fits_151 ?_
      refine Go_ior d_M_fits_152 (by omega) (by omega) ?_
      refine Go_istore d_M_fits_153 rfl sa7 ?_
      refine Go_iinc d_M_fits_155 lg8 rfl sa8 ?_
      refine Go_goto d_M_fits_158 ?_
      try rw [show ((q.toNat : Nat) : Int) = q by omega]
      refine ih o1 o2 o3 _ ?_
      rw [eS]
      first
        | rw [if_pos h141]
        | rw [if_neg h141, orI_0 (by omega)]
    · refine Go_const d_M_fits_144 ?_
      refine Go_iload d_M_fits_145 lg8 ?_
      rw [show vI q = vI ((q.toNat : Nat) : Int) by rw [show ((q.toNat : Nat) : Int) = q by omega]]
      refine Go_shl1 d_M_fits_147 (by omega) ?_
      refine Go_goto d_M_fits_148 ?_
      refine Go_ior d_M_fits_152 (by omega) (by omega) ?_
      refine Go_istore d_M_fits_153 rfl sa7 ?_
      refine Go_iinc d_M_fits_155 lg8 rfl sa8 ?_
      refine Go_goto d_M_fits_158 ?_
      try rw [show ((q.toNat : Nat) : Int) = q by omega]
      refine ih o1 o2 o3 _ ?_
      rw [eS]
      first
        | rw [if_pos h141]
        | rw [if_neg h141, orI_0 (by omega)]
theorem c_M_film (r s l i : Int) (hr0 : -2147483648 ≤ r ∧ r < 2147483648) (hs : -2147483648 ≤ s ∧ s < 2147483648) (hl : -2147483648 ≤ l ∧ l < 2147483648) (hi : -2147483648 ≤ i ∧ i < 2147483648) (h : ShOk S) (hN : NR (S 22 0)) (hlo : ∀ k : Int, (0 ≤ r ∧ r < S 22 0 6) → 0 ≤ k → k < rof (S 22 0) r 1 (S 22 0 5).toNat → 0 ≤ lout (S 22 0) r k (S 22 0 5).toNat ∧ lout (S 22 0) r k (S 22 0 5).toNat < S 22 0 5) : Fn G k_M_film [oR G 22, vI r, vI s, vI l, vI i] S (PI (fun z S1 => (¬ ((0 ≤ r ∧ r < S 22 0 6) ∧ (0 ≤ s ∧ s ≤ 3) ∧ 0 ≤ l ∧ l ≤ 3) ∧ z = -1 ∧ S1 = S) ∨ (((0 ≤ r ∧ r < S 22 0 6) ∧ (0 ≤ s ∧ s ≤ 3) ∧ 0 ≤ l ∧ l ≤ 3) ∧ whyV (S 22 12) (S 22 13) s l i (rof (S 22 0) r 1 (S 22 0 5).toNat) < 0 ∧ z = whyV (S 22 12) (S 22 13) s l i (rof (S 22 0) r 1 (S 22 0 5).toNat) ∧ S1 = S) ∨ (((0 ≤ r ∧ r < S 22 0 6) ∧ (0 ≤ s ∧ s ≤ 3) ∧ 0 ≤ l ∧ l ≤ 3) ∧ 0 ≤ whyV (S 22 12) (S 22 13) s l i (rof (S 22 0) r 1 (S 22 0 5).toNat) ∧ z = rof (S 22 0) r 1 (S 22 0 5).toNat ∧ S1 = sR S 22 14 (cpR (S 22 14) (fun k => lf (S 22 0) (lout (S 22 0) r (k : Int) (S 22 0 5).toNat) 1) (24 * s + i).toNat (rof (S 22 0) r 1 (S 22 0 5).toNat).toNat)))) := by
  obtain ⟨hr, i0, i1, i2, i3, i4, i5, i6⟩ := id hN
  have hc := whyV_c (S 22 12) (S 22 13) s l i (rof (S 22 0) r 1 (S 22 0 5).toNat)
  have hnr := rof_0 (S 22 0) r 1 (S 22 0 5).toNat
  refine Fn.of [some (oR G 22), some (vI r), some (vI s), some (vI l), some (vI i), none, none, none] 3 rfl (by decide +kernel) rfl (Nat.le_of_ble_eq_true rfl) (by decide) ?_

  have loop := loopI (fun k => ((0 ≤ r ∧ r < S 22 0 6) ∧ (0 ≤ s ∧ s ≤ 3) ∧ 0 ≤ l ∧ l ≤ 3) → 0 ≤ whyV (S 22 12) (S 22 13) s l i (rof (S 22 0) r 1 (S 22 0 5).toNat) → ∀ S1, S1 = sR S 22 14 (cpR (S 22 14) (fun k => lf (S 22 0) (lout (S 22 0) r (k : Int) (S 22 0 5).toNat) 1) (24 * s + i).toNat k.toNat) → Go G k_M_film 60 [some (oR G 22), some (vI r), some (vI s), some (vI l), some (vI i), some (vI (rof (S 22 0) r 1 (S 22 0 5).toNat)), some (vI (whyV (S 22 12) (S 22 13) s l i (rof (S 22 0) r 1 (S 22 0 5).toNat))), some (vI k)] [] S1 (PI (fun z S1 => (¬ ((0 ≤ r ∧ r < S 22 0 6) ∧ (0 ≤ s ∧ s ≤ 3) ∧ 0 ≤ l ∧ l ≤ 3) ∧ z = -1 ∧ S1 = S) ∨ (((0 ≤ r ∧ r < S 22 0 6) ∧ (0 ≤ s ∧ s ≤ 3) ∧ 0 ≤ l ∧ l ≤ 3) ∧ whyV (S 22 12) (S 22 13) s l i (rof (S 22 0) r 1 (S 22 0 5).toNat) < 0 ∧ z = whyV (S 22 12) (S 22 13) s l i (rof (S 22 0) r 1 (S 22 0 5).toNat) ∧ S1 = S) ∨ (((0 ≤ r ∧ r < S 22 0 6) ∧ (0 ≤ s ∧ s ≤ 3) ∧ 0 ≤ l ∧ l ≤ 3) ∧ 0 ≤ whyV (S 22 12) (S 22 13) s l i (rof (S 22 0) r 1 (S 22 0 5).toNat) ∧ z = rof (S 22 0) r 1 (S 22 0 5).toNat ∧ S1 = sR S 22 14 (cpR (S 22 14) (fun k => lf (S 22 0) (lout (S 22 0) r (k : Int) (S 22 0 5).toNat) 1) (24 * s + i).toNat (rof (S 22 0) r 1 (S 22 0 5).toNat).toNat))))) (rof (S 22 0) r 1 (S 22 0 5).toNat) ?_ ?_
  refine Go_aload d_M_film_0 lg0 ⟨_, rfl⟩ ?_
  refine Go_iload d_M_film_1 lg1 ?_
  refine Go_V1p d_M_film_2 kM (c_M_isRound _ (by omega) (by omega)) (Nat.le_of_ble_eq_true rfl) ?_
  refine Go_ifeq_d d_M_film_5 (fun h5 => ?_) (fun h5 => ?_)
  · refine Go_const d_M_film_27 ?_
    exact Go_iretI d_M_film_28 (Or.inl ⟨by omega, rfl, rfl⟩)
  · refine Go_iload d_M_film_8 lg2 ?_
    refine Go_S1p d_M_film_9 (c_M_isSheet _ (by omega)) (Nat.le_of_ble_eq_true rfl) ?_
    refine Go_ifeq_d d_M_film_12 (fun h12 => ?_) (fun h12 => ?_)
    · refine Go_const d_M_film_27 ?_
      exact Go_iretI d_M_film_28 (Or.inl ⟨by omega, rfl, rfl⟩)
    · refine Go_iload d_M_film_15 lg3 ?_
      refine Go_i2l d_M_film_16 (by omega) ?_
      refine Go_lconst d_M_film_17 ?_
      refine Go_lconst d_M_film_18 ?_
      refine Go_S3p d_M_film_21 (c_M_in _ _ _ (by omega) (by omega) (by omega)) (Nat.le_of_ble_eq_true rfl) ?_
      refine Go_ifne_d d_M_film_24 (fun h24 => ?_) (fun h24 => ?_)
      · refine Go_aload d_M_film_29 lg0 ⟨_, rfl⟩ ?_
        refine Go_iload d_M_film_30 lg1 ?_
        refine Go_const d_M_film_31 ?_
        refine Go_V2p d_M_film_32 kM (c_M_roundOf _ _ (by omega) (by omega) (by omega) hr) (Nat.le_of_ble_eq_true rfl) ?_
        refine Go_istore d_M_film_35 rfl sa5 ?_
        refine Go_aload d_M_film_37 lg0 ⟨_, rfl⟩ ?_
        refine Go_iload d_M_film_38 lg2 ?_
        refine Go_iload d_M_film_39 lg3 ?_
        refine Go_iload d_M_film_40 lg4 ?_
        refine Go_iload d_M_film_42 lg5 ?_
        refine Go_V4p d_M_film_44 kM (c_M_why _ _ _ _ (by omega) (by omega) (by omega) (by omega) h) (Nat.le_of_ble_eq_true rfl) ?_
        refine Go_istore d_M_film_47 rfl sa6 ?_
        refine Go_iload d_M_film_49 lg6 ?_
        refine Go_if_ge d_M_film_51 (by omega) (fun h51 => ?_) (fun h51 => ?_)
        · refine Go_const d_M_film_57 ?_
          refine Go_istore d_M_film_58 rfl sa7 ?_
          exact loop 0 (by omega) (by omega) (by omega) h51 S (by rw [show (0 : Int).toNat = 0 from rfl, cpR_0, sR_id])
        · refine Go_iload d_M_film_54 lg6 ?_
          exact Go_iretI d_M_film_56 (Or.inr (Or.inl ⟨by omega, h51, rfl, rfl⟩))
      · refine Go_const d_M_film_27 ?_
        exact Go_iretI d_M_film_28 (Or.inl ⟨by omega, rfl, rfl⟩)
  · intro o1 o2 S1 hS1
    refine Go_iload d_M_film_60 lg7 ?_
    refine Go_iload d_M_film_62 lg5 ?_
    refine Go_icmp_ge d_M_film_64 (by omega) (by omega) (fun h64 => ?_) (fun h64 => absurd h64 (by omega))
    refine Go_iload d_M_film_101 lg5 ?_
    exact Go_iretI d_M_film_103 (Or.inr (Or.inr ⟨o1, o2, rfl, hS1⟩))
  · intro k h0 h1 ih o1 o2 S1 hS1
    obtain ⟨y1, y2, y3, y4⟩ := whyV_0 o2
    have ysz := (h.1 s.toNat (by omega)).2
    have e0 : S1 22 0 = S 22 0 := by rw [hS1]; exact sR_j (by decide)
    have hr1 : ∀ k, -2147483648 ≤ S1 22 0 k ∧ S1 22 0 k < 2147483648 := by rw [e0]; exact hr
    have hlk := hlo k o1.1 h0 h1
    refine Go_iload d_M_film_60 lg7 ?_
    refine Go_iload d_M_film_62 lg5 ?_
    refine Go_icmp_ge d_M_film_64 (by omega) (by omega) (fun h64 => absurd h64 (by omega)) (fun h64 => ?_)
    refine Go_aload d_M_film_67 lg0 ⟨_, rfl⟩ ?_
    refine Go_get d_M_film_68 fm_14 ?_
    refine Go_const d_M_film_71 ?_
    refine Go_iload d_M_film_73 lg2 ?_
    refine Go_imul d_M_film_74 ?_
    refine Go_iload d_M_film_75 lg4 ?_
    refine Go_iadd d_M_film_77 ?_
    refine Go_iload d_M_film_78 lg7 ?_
    refine Go_iadd d_M_film_80 ?_
    refine Go_aload d_M_film_81 lg0 ⟨_, rfl⟩ ?_
    refine Go_aload d_M_film_82 lg0 ⟨_, rfl⟩ ?_
    refine Go_iload d_M_film_83 lg1 ?_
    refine Go_iload d_M_film_84 lg7 ?_
    refine Go_V2p d_M_film_86 kM (c_M_letterOut _ _ (by omega) (by omega) (by rw [e0]; omega) hr1) (Nat.le_of_ble_eq_true rfl) ?_
    rw [e0]
    refine Go_const d_M_film_89 ?_
    refine Go_V2p d_M_film_90 kM (c_M_of _ _ (by omega)) (Nat.le_of_ble_eq_true rfl) ?_
    rw [e0]
    refine Go_i2l d_M_film_93 (hr _) ?_
    refine Go_last d_M_film_94 am_14 (by omega) ?_
    refine Go_iinc d_M_film_95 lg7 rfl sa7 ?_
    refine Go_goto d_M_film_98 ?_
    refine ih o1 o2 _ ?_
    have hcs := cpR_S (S 22 14) (fun k => lf (S 22 0) (lout (S 22 0) r (k : Int) (S 22 0 5).toNat) 1) (24 * s + i).toNat k.toNat
    rw [show ((k.toNat : Nat) : Int) = k by omega] at hcs
    rw [hS1, st3_sR2, show (24 * s + i + k).toNat = (24 * s + i).toNat + k.toNat by omega, hcs, show (k + 1).toNat = k.toNat + 1 by omega]
end Model10
