theorem cpR_S (A N : Row) (off k : Nat) : up (cpR A N off k) (off + k) (N k) = cpR A N off (k + 1) := by
  funext j
  unfold up cpR
  by_cases h : j = off + k
  · subst h
    rw [if_pos rfl, if_pos (by omega), show off + k - off = k by omega]
  · rw [if_neg h]
    by_cases h2 : off ≤ j ∧ j < off + k
    · rw [if_pos h2, if_pos (by omega)]
    · rw [if_neg h2, if_neg (by omega)]
theorem cpR_0 (A N : Row) (off : Nat) : cpR A N off 0 = A := by funext j; unfold cpR; rw [if_neg (by omega)]
theorem shR_S (A : Row) (k : Nat) : up (shR A k) k (A (k + 402)) = shR A (k + 1) := by
  funext j
  unfold up shR
  by_cases h : j = k
  · subst h; rw [if_pos rfl, if_pos (by omega)]
  · rw [if_neg h]
    by_cases h2 : j < k
    · rw [if_pos h2, if_pos (by omega)]
    · rw [if_neg h2, if_neg (by omega)]
theorem shR_0 (A : Row) : shR A 0 = A := by funext j; unfold shR; rw [if_neg (by omega)]
/-- the rows behind 'notes' -/
def noteA (A : Row) (u : Int) (N : Row) : Row := if u = 6 then cpR (shR A 2010) N 2010 402 else cpR A N (402 * u).toNat 402
def noteU (u : Int) : Int := if u = 6 then 6 else u + 1
def noteS (S : St) : St := st3 (sR S 22 7 (noteA (S 22 7) (S 22 8 0) (S 22 0))) 22 8 0 (noteU (S 22 8 0))
theorem goN_st (S : St) (i k : Int) (hi : 0 ≤ i) : st3 (st3 S 22 0 (7 + 5 * i + 3).toNat (S 22 0 6)) 22 0 (7 + 5 * i + 4).toNat k = sR S 22 0 (goN (S 22 0) i k) := by
  rw [st3_sR, st3_sR, sR_sR, sR_s]
  congr 1
  funext j
  unfold up goN
  (repeat' split) <;> first | rfl | omega
section Model2
variable {G : GT} {S : St}
theorem b_M_notes {x : Option Value} (hu : 0 ≤ S 22 8 0 ∧ S 22 8 0 ≤ 5) : Go G k_M_notes 47 [some (oR G 22), x] [] S (PN (fun S1 => S1 = st3 (sR S 22 7 (cpR (S 22 7) (S 22 0) (402 * S 22 8 0).toNat 402)) 22 8 0 (S 22 8 0 + 1))) := by
  have loop := loopI (fun i => ∀ S1, S1 = sR S 22 7 (cpR (S 22 7) (S 22 0) (402 * S 22 8 0).toNat i.toNat) → Go G k_M_notes 49 [some (oR G 22), some (vI i)] [] S1 (PN (fun S1 => S1 = st3 (sR S 22 7 (cpR (S 22 7) (S 22 0) (402 * S 22 8 0).toNat 402)) 22 8 0 (S 22 8 0 + 1)))) 402 ?_ ?_
  refine Go_const d_M_notes_47 ?_
  refine Go_istore d_M_notes_48 rfl sa1 ?_
  exact loop 0 (by omega) (by omega) S (by rw [show (0 : Int).toNat = 0 from rfl, cpR_0, sR_id])
  · intro S1 hS1
    have e8 : S1 22 8 0 = S 22 8 0 := by rw [hS1]; exact sR_ji (by decide)
    refine Go_iload d_M_notes_49 lg1 ?_
    refine Go_const d_M_notes_50 ?_
    refine Go_icmp_ge d_M_notes_53 (by omega) (by omega) (fun h53 => ?_) (fun h53 => absurd h53 (by omega))
    refine Go_aload d_M_notes_83 lg0 ⟨_, rfl⟩ ?_
    refine Go_dup d_M_notes_84 rfl ?_
    refine Go_get d_M_notes_85 fm_8 ?_
    refine Go_const d_M_notes_88 ?_
    refine Go_iadd d_M_notes_89 ?_
    refine Go_put d_M_notes_90 (wm_8 _) rfl rfl ?_
    exact Go_vretN d_M_notes_93 (by rw [e8, hS1]; rfl)
  · intro i h0 h1 ih S1 hS1
    have e8 : S1 22 8 0 = S 22 8 0 := by rw [hS1]; exact sR_ji (by decide)
    have e0 : S1 22 0 = S 22 0 := by rw [hS1]; exact sR_j (by decide)
    refine Go_iload d_M_notes_49 lg1 ?_
    refine Go_const d_M_notes_50 ?_
    refine Go_icmp_ge d_M_notes_53 (by omega) (by omega) (fun h53 => absurd h53 (by omega)) (fun h53 => ?_)
    refine Go_aload d_M_notes_56 lg0 ⟨_, rfl⟩ ?_
    refine Go_get d_M_notes_57 fm_7 ?_
    refine Go_const d_M_notes_60 ?_
    refine Go_aload d_M_notes_63 lg0 ⟨_, rfl⟩ ?_
    refine Go_get d_M_notes_64 fm_8 ?_
    refine Go_imul d_M_notes_67 ?_
    refine Go_iload d_M_notes_68 lg1 ?_
    refine Go_iadd d_M_notes_69 ?_
    refine Go_aload d_M_notes_70 lg0 ⟨_, rfl⟩ ?_
    refine Go_get d_M_notes_71 fm_0 ?_
    refine Go_iload d_M_notes_74 lg1 ?_
    refine Go_iald d_M_notes_75 am_0 (by omega) ?_
    refine Go_iast d_M_notes_76 am_7 (by omega) ?_
    refine Go_iinc d_M_notes_77 lg1 rfl sa1 ?_
    refine Go_goto d_M_notes_80 ?_
    refine ih _ ?_
    rw [e0, e8, hS1, st3_sR2, show (402 * S 22 8 0 + i).toNat = (402 * S 22 8 0).toNat + i.toNat by omega, cpR_S, show (i + 1).toNat = i.toNat + 1 by omega]
theorem c_M_notes (hu : 0 ≤ S 22 8 0 ∧ S 22 8 0 ≤ 6) : Fn G k_M_notes [oR G 22] S (PN (fun S1 => S1 = noteS S)) := by
  refine Fn.of [some (oR G 22), none] 1 rfl (by decide +kernel) rfl (Nat.le_of_ble_eq_true rfl) (by decide) ?_

  have loop := loopF (fun i => S 22 8 0 = 6 → ∀ S1, S1 = sR S 22 7 (shR (S 22 7) (i - 402).toNat) → Go G k_M_notes 13 [some (oR G 22), some (vI i)] [] S1 (PN (fun S1 => S1 = noteS S))) 402 2412 ?_ ?_
  refine Go_aload d_M_notes_0 lg0 ⟨_, rfl⟩ ?_
  refine Go_get d_M_notes_1 fm_8 ?_
  refine Go_const d_M_notes_4 ?_
  refine Go_icmp_ne d_M_notes_6 (by omega) (by omega) (fun h6 => ?_) (fun h6 => ?_)
  · refine Go.mono (b_M_notes (by omega)) ?_
    rintro r S1 ⟨rfl, rfl⟩
    refine ⟨rfl, ?_⟩
    unfold noteS noteA noteU
    rw [if_neg (by omega), if_neg (by omega)]
  · refine Go_const d_M_notes_9 ?_
    refine Go_istore d_M_notes_12 rfl sa1 ?_
    exact loop 402 (by omega) (by omega) (by omega) S (by rw [show ((402 : Int) - 402).toNat = 0 from rfl, shR_0, sR_id])
  · intro h6 S1 hS1
    refine Go_iload d_M_notes_13 lg1 ?_
    refine Go_const d_M_notes_14 ?_
    refine Go_icmp_ge d_M_notes_17 (by omega) (by omega) (fun h17 => ?_) (fun h17 => absurd h17 (by omega))
    refine Go_aload d_M_notes_42 lg0 ⟨_, rfl⟩ ?_
    refine Go_const d_M_notes_43 ?_
    refine Go_put d_M_notes_44 (wm_8 _) rfl rfl ?_
    refine Go.mono (b_M_notes (by rw [st3_s]; decide)) ?_
    rintro r S2 ⟨rfl, rfl⟩
    refine ⟨rfl, ?_⟩
    rw [st3_s, hS1]
    unfold noteS noteA noteU
    rw [if_pos h6, if_pos h6]
    funext c j i
    by_cases h7 : c = 22 ∧ j = 7
    · obtain ⟨rfl, rfl⟩ := h7
      simp [st3, sR, cpR, shR]
    · by_cases h8 : c = 22 ∧ j = 8
      · obtain ⟨rfl, rfl⟩ := h8
        simp [st3, sR]
        split <;> rfl
      · have g7 : ∀ x, ¬ (c = 22 ∧ j = 8 ∧ i = x) := fun x z => h8 ⟨z.1, z.2.1⟩
        simp only [st3, sR, if_neg h7, if_neg (g7 0)]
  · intro i h0 h1 ih h6 S1 hS1
    refine Go_iload d_M_notes_13 lg1 ?_
    refine Go_const d_M_notes_14 ?_
    refine Go_icmp_ge d_M_notes_17 (by omega) (by omega) (fun h17 => absurd h17 (by omega)) (fun h17 => ?_)
    refine Go_aload d_M_notes_20 lg0 ⟨_, rfl⟩ ?_
    refine Go_get d_M_notes_21 fm_7 ?_
    refine Go_iload d_M_notes_24 lg1 ?_
    refine Go_const d_M_notes_25 ?_
    refine Go_isub d_M_notes_28 ?_
    refine Go_aload d_M_notes_29 lg0 ⟨_, rfl⟩ ?_
    refine Go_get d_M_notes_30 fm_7 ?_
    refine Go_iload d_M_notes_33 lg1 ?_
    refine Go_iald d_M_notes_34 am_7 (by omega) ?_
    refine Go_iast d_M_notes_35 am_7 (by omega) ?_
    refine Go_iinc d_M_notes_36 lg1 rfl sa1 ?_
    refine Go_goto d_M_notes_39 ?_
    refine ih h6 _ ?_
    have e : S1 22 7 i.toNat = S 22 7 ((i - 402).toNat + 402) := by
      rw [hS1, sR_si]
      unfold shR
      rw [if_neg (by omega), show (i - 402).toNat + 402 = i.toNat by omega]
    rw [e, hS1, st3_sR2, shR_S, show (i + 1 - 402).toNat = (i - 402).toNat + 1 by omega]
theorem c_M_goesRound {N : Row} (hN : S 22 0 = N) (h : NR N) (hd : N 5 + N 3 ≤ 79) (hg : 0 ≤ rndGo N ∧ rndGo N ≤ cnt (dumN N (N 3).toNat) (N 5 + N 3).toNat) : Fn G k_M_goesRound [oR G 22] S (PI (fun z S1 => z = rndGo N ∧ S1 = sR S 22 0 (rndN N))) := by
  obtain ⟨hr, i0, i1, i2, i3, i4, i5, i6⟩ := id h
  obtain ⟨d1, d2, d3, d4⟩ := dum_f h (N 3).toNat (by omega)
  have hc0 := cnt_0 (dumN N (N 3).toNat) (N 5 + N 3).toNat
  refine Fn.of [some (oR G 22), none, none, none] 3 rfl (by decide +kernel) rfl (Nat.le_of_ble_eq_true rfl) (by decide) ?_

  have loop2 := loopI (fun k => ∀ S1, S1 = sR S 22 0 (outsN (dumN N (N 3).toNat) k.toNat) → Go G k_M_goesRound 48 [some (oR G 22), some (vI (rndGo N)), some (vI k), none] [] S1 (PI (fun z S1 => z = rndGo N ∧ S1 = sR S 22 0 (rndN N)))) (rndGo N) ?_ ?_
  have loop1 := loopI (fun k => ∀ S1, S1 = sR S 22 0 (dumN N k.toNat) → Go G k_M_goesRound 2 [some (oR G 22), some (vI k), none, none] [] S1 (PI (fun z S1 => z = rndGo N ∧ S1 = sR S 22 0 (rndN N)))) (N 3) ?_ ?_
  refine Go_const d_M_goesRound_0 ?_
  refine Go_istore d_M_goesRound_1 rfl sa1 ?_
  exact loop1 0 (by omega) (by omega) S (by rw [show (0 : Int).toNat = 0 from rfl]; show S = sR S 22 0 N; rw [← hN, sR_id])
  · intro S1 hS1
    have hN1 : S1 22 0 = dumN N (N 3).toNat := by rw [hS1, sR_s]
    have e0 : S1 22 0 0 = N 0 := by rw [hN1]; exact d3 0 (by decide) (by decide) (by decide)
    have e2 : S1 22 0 2 = N 2 := by rw [hN1]; exact d3 2 (by decide) (by decide) (by decide)
    have e3 : S1 22 0 3 = N 3 := by rw [hN1]; exact d3 3 (by decide) (by decide) (by decide)
    have e5 : S1 22 0 5 = N 5 + N 3 := by rw [hN1, d2]; omega
    have hc : cnt (S1 22 0) (S1 22 0 5).toNat = cnt (dumN N (N 3).toNat) (N 5 + N 3).toNat := by rw [e5, hN1]
    refine Go_iload d_M_goesRound_2 lg1 ?_
    refine Go_aload d_M_goesRound_3 lg0 ⟨_, rfl⟩ ?_
    refine Go_get d_M_goesRound_4 fm_0 ?_
    refine Go_const d_M_goesRound_7 ?_
    refine Go_ialdC (k0 := 3) d_M_goesRound_8 am_0 rfl (by decide) ?_
    refine Go_icmp_ge d_M_goesRound_9 (by omega) (by omega) (fun h9 => ?_) (fun h9 => absurd h9 (by omega))
    refine Go_aload d_M_goesRound_31 lg0 ⟨_, rfl⟩ ?_
    refine Go_aload d_M_goesRound_32 lg0 ⟨_, rfl⟩ ?_
    refine Go_get d_M_goesRound_33 fm_0 ?_
    refine Go_const d_M_goesRound_36 ?_
    refine Go_ialdC (k0 := 0) d_M_goesRound_37 am_0 rfl (by decide) ?_
    refine Go_aload d_M_goesRound_38 lg0 ⟨_, rfl⟩ ?_
    refine Go_V0p d_M_goesRound_39 kM (c_M_standing (by omega) (by rw [hN1]; exact d1.1)) (Nat.le_of_ble_eq_true rfl) ?_
    refine Go_V2p d_M_goesRound_42 kM (c_M_share _ _ (by omega) (by omega) (by omega)) (Nat.le_of_ble_eq_true rfl) ?_
    have hgo : shr (S1 22 0) (S1 22 0 0) (cnt (S1 22 0) (S1 22 0 5).toNat) = rndGo N := by
      rw [hc, e0]
      unfold rndGo shr
      rw [e2]
    rw [hgo]
    refine Go_istore d_M_goesRound_45 rfl sa1 ?_
    refine Go_const d_M_goesRound_46 ?_
    refine Go_istore d_M_goesRound_47 rfl sa2 ?_
    exact loop2 0 (by omega) (by omega) S1 (by rw [hS1]; rfl)
  · intro k h0 h1 ih S1 hS1
    obtain ⟨g1, g2, g3, g4⟩ := dum_f h k.toNat (by omega)
    have hN1 : S1 22 0 = dumN N k.toNat := by rw [hS1, sR_s]
    have e3 : S1 22 0 3 = N 3 := by rw [hN1]; exact g3 3 (by decide) (by decide) (by decide)
    have e4 := g1.2.2.2.2.2.1
    have hx := dr_rg (S1 22 0 4)
    refine Go_iload d_M_goesRound_2 lg1 ?_
    refine Go_aload d_M_goesRound_3 lg0 ⟨_, rfl⟩ ?_
    refine Go_get d_M_goesRound_4 fm_0 ?_
    refine Go_const d_M_goesRound_7 ?_
    refine Go_ialdC (k0 := 3) d_M_goesRound_8 am_0 rfl (by decide) ?_
    refine Go_icmp_ge d_M_goesRound_9 (by omega) (by omega) (fun h9 => absurd h9 (by omega)) (fun h9 => ?_)
    refine Go_aload d_M_goesRound_12 lg0 ⟨_, rfl⟩ ?_
    refine Go_const d_M_goesRound_13 ?_
    refine Go_aload d_M_goesRound_15 lg0 ⟨_, rfl⟩ ?_
    refine Go_V0i d_M_goesRound_16 kM (c_M_draws (by rw [hN1]; exact e4)) (Nat.le_of_ble_eq_true rfl) ?_
    rintro z S2 ⟨hz, hS2⟩
    refine Go_const d_M_goesRound_19 ?_
    refine Go_irem d_M_goesRound_21 (by omega) (by omega) ?_
    refine Go_V2n d_M_goesRound_22 kM (c_M_adds _ _ (by rw [hS2, sR_s, hN1, drN_k _ (by decide), g2]; omega)) (Nat.le_of_ble_eq_true rfl) ?_
    rintro S3 hS3
    refine Go_iinc d_M_goesRound_25 lg1 rfl sa1 ?_
    refine Go_goto d_M_goesRound_28 ?_
    refine ih S3 ?_
    rw [hS3, hS2, hz, sR_s, sR_sR, hS1, sR_sR, sR_s, show (k + 1).toNat = k.toNat + 1 by omega]
    rfl
  · intro S1 hS1
    obtain ⟨g1, g2, g3⟩ := outs_f d1 (rndGo N).toNat (by rw [d2, show (N 5 + ((N 3).toNat : Int)).toNat = (N 5 + N 3).toNat by omega]; omega)
    have hN1 : S1 22 0 = outsN (dumN N (N 3).toNat) (rndGo N).toNat := by rw [hS1, sR_s]
    have e6 : S1 22 0 6 = N 6 := by rw [hN1, g2 6 (by decide) (by decide)]; exact d3 6 (by decide) (by decide) (by decide)
    refine Go_iload d_M_goesRound_48 lg2 ?_
    refine Go_iload d_M_goesRound_49 lg1 ?_
    refine Go_icmp_ge d_M_goesRound_50 (by omega) (by omega) (fun h50 => ?_) (fun h50 => absurd h50 (by omega))
    refine Go_aload d_M_goesRound_107 lg0 ⟨_, rfl⟩ ?_
    refine Go_get d_M_goesRound_108 fm_0 ?_
    refine Go_const d_M_goesRound_111 ?_
    refine Go_dup2 d_M_goesRound_113 rfl rfl ?_
    refine Go_ialdC (k0 := 6) d_M_goesRound_114 am_0 rfl (by decide) ?_
    refine Go_const d_M_goesRound_115 ?_
    refine Go_iadd d_M_goesRound_116 ?_
    refine Go_iastC (k0 := 6) d_M_goesRound_117 am_0 rfl (by decide) ?_
    refine Go_iload d_M_goesRound_118 lg1 ?_
    exact Go_iretI d_M_goesRound_119 ⟨rfl, by rw [st3_sR, e6, hS1, sR_sR, sR_s]; rfl⟩
  · intro k h0 h1 ih S1 hS1
    have ed : (N 5 + ((N 3).toNat : Int)).toNat = (N 5 + N 3).toNat := by omega
    obtain ⟨g1, g2, g3⟩ := outs_f d1 k.toNat (by rw [d2, ed]; omega)
    have hN1 : S1 22 0 = outsN (dumN N (N 3).toNat) k.toNat := by rw [hS1, sR_s]
    have e5 : S1 22 0 5 = N 5 + N 3 := by rw [hN1, g2 5 (by decide) (by decide), d2]; omega
    have e4 := g1.2.2.2.2.2.1
    have hx := dr_rg (S1 22 0 4)
    have hcn : cnt (S1 22 0) (S1 22 0 5).toNat = cnt (dumN N (N 3).toNat) (N 5 + N 3).toNat - k := by
      rw [e5, hN1, ← ed, ← d2, g3]; omega
    obtain ⟨i, q1, q2, q3, q4⟩ := out1_i (N := S1 22 0) (by rw [hN1]; exact g1) (by rw [hcn]; omega)
    have hw6 : 0 ≤ S1 22 0 6 := by rw [hN1]; exact g1.2.2.2.2.2.2.2.1
    refine Go_iload d_M_goesRound_48 lg2 ?_
    refine Go_iload d_M_goesRound_49 lg1 ?_
    refine Go_icmp_ge d_M_goesRound_50 (by omega) (by omega) (fun h50 => absurd h50 (by omega)) (fun h50 => ?_)
    refine Go_aload d_M_goesRound_53 lg0 ⟨_, rfl⟩ ?_
    refine Go_aload d_M_goesRound_54 lg0 ⟨_, rfl⟩ ?_
    refine Go_V0i d_M_goesRound_55 kM (c_M_draws (by rw [hN1]; exact e4)) (Nat.le_of_ble_eq_true rfl) ?_
    rintro z S2 ⟨hz, hS2⟩
    have hN2 : S2 22 0 = drN (S1 22 0) := by rw [hS2, sR_s]
    have f5 : S2 22 0 5 = S1 22 0 5 := by rw [hN2]; exact drN_k _ (by decide)
    have hr2 : ∀ k, -2147483648 ≤ S2 22 0 k ∧ S2 22 0 k < 2147483648 := by rw [hN2, hN1]; exact g1.dr.1
    have hc2 : cnt (S2 22 0) (S2 22 0 5).toNat = cnt (S1 22 0) (S1 22 0 5).toNat := by rw [f5, hN2, drN_cnt]
    refine Go_aload d_M_goesRound_58 lg0 ⟨_, rfl⟩ ?_
    refine Go_V0p d_M_goesRound_59 kM (c_M_standing (by omega) hr2) (Nat.le_of_ble_eq_true rfl) ?_
    refine Go_irem d_M_goesRound_62 (by omega) (by omega) ?_
    refine Go_V1p d_M_goesRound_63 kM (c_M_standsAt _ (by rw [hc2]; have := Int.emod_nonneg z (show cnt (S1 22 0) (S1 22 0 5).toNat ≠ 0 by omega); have := Int.emod_lt_of_pos z (show 0 < cnt (S1 22 0) (S1 22 0 5).toNat by omega); omega) (by omega) hr2) (Nat.le_of_ble_eq_true rfl) ?_
    have hsat : sat (S2 22 0) (z % cnt (S2 22 0) (S2 22 0 5).toNat) (S2 22 0 5).toNat = (i : Int) := by rw [hc2, hz, f5, hN2, drN_sat]; exact q4
    rw [hsat]
    refine Go_istore d_M_goesRound_66 rfl sa3 ?_
    refine Go_aload d_M_goesRound_67 lg0 ⟨_, rfl⟩ ?_
    refine Go_get d_M_goesRound_68 fm_0 ?_
    refine Go_const d_M_goesRound_71 ?_
    refine Go_const d_M_goesRound_73 ?_
    refine Go_iload d_M_goesRound_74 lg3 ?_
    refine Go_imul d_M_goesRound_75 ?_
    refine Go_iadd d_M_goesRound_76 ?_
    refine Go_const d_M_goesRound_77 ?_
    refine Go_iadd d_M_goesRound_78 ?_
    refine Go_aload d_M_goesRound_79 lg0 ⟨_, rfl⟩ ?_
    refine Go_get d_M_goesRound_80 fm_0 ?_
    refine Go_const d_M_goesRound_83 ?_
    refine Go_ialdC (k0 := 6) d_M_goesRound_85 am_0 rfl (by decide) ?_
    refine Go_iast d_M_goesRound_86 am_0 (by omega) ?_
    refine Go_aload d_M_goesRound_87 lg0 ⟨_, rfl⟩ ?_
    refine Go_get d_M_goesRound_88 fm_0 ?_
    refine Go_const d_M_goesRound_91 ?_
    refine Go_const d_M_goesRound_93 ?_
    refine Go_iload d_M_goesRound_94 lg3 ?_
    refine Go_imul d_M_goesRound_95 ?_
    refine Go_iadd d_M_goesRound_96 ?_
    refine Go_const d_M_goesRound_97 ?_
    refine Go_iadd d_M_goesRound_98 ?_
    refine Go_iload d_M_goesRound_99 lg2 ?_
    refine Go_iast d_M_goesRound_100 am_0 (by omega) ?_
    refine Go_iinc d_M_goesRound_101 lg2 rfl sa2 ?_
    refine Go_goto d_M_goesRound_104 ?_
    refine fg3 (ih _ ?_)
    rw [goN_st _ _ _ (by omega), hN2, hS2, sR_sR, hS1, sR_sR, sR_s, show (k + 1).toNat = k.toNat + 1 by omega]
    show _ = sR S 22 0 (out1 (outsN (dumN N (N 3).toNat) k.toNat) (k.toNat : Int))
    unfold out1
    rw [hN1] at q4
    rw [q4, show ((k.toNat : Nat) : Int) = k by omega]
end Model2
