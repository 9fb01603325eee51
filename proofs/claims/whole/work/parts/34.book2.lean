section Book2
variable {G : GT} {S : St} {c : Nat} {N : Row}
theorem goB_st {B : Bk} {pl i k : Int} (hp : 0 ≤ pl) (hpw : pl < B 8 0) (hi : 0 ≤ i) : st3 (st3 (st3 (cpy3 (st3 (sB S c B) c 8 0 (B 8 0 - 1)) c 9 c 9 (pl + 1).toNat pl.toNat (B 8 0 - 1 - pl).toNat) c 6 i.toNat (B 10 0)) c 7 i.toNat k) c 12 (B 10 0 * 15 + k).toNat i = sB S c (goB B pl i k) := by
  funext c1 j x
  by_cases h : c1 = c
  · subst h
    rw [sB_s]
    unfold st3 cpy3 goB
    simp only [true_and, sB_s, if_true]
    by_cases h8 : j = 8
    · subst h8; simp
    · by_cases h9 : j = 9
      · subst h9
        simp
        by_cases q : pl ≤ (x : Int) ∧ (x : Int) < B 8 0 - 1
        · rw [if_pos (by omega), if_pos q, show (pl + 1).toNat + (x - pl.toNat) = x + 1 by omega]
        · rw [if_neg (by omega), if_neg q]
      · simp [h8, h9]
        by_cases h12 : j = 12
        · subst h12; simp
        · by_cases h7 : j = 7
          · subst h7; simp
          · simp [h12, h7]
  · rw [sB_c h]
    unfold st3 cpy3
    simp [h, sB]
theorem c_B_letOut (k : Int) (hc : 1 ≤ c ∧ c ≤ 14) (hB : BR (S c) N) (hN : NR N) (hk : 0 ≤ k ∧ k < 15) (h6 : N 6 < 12) (hp : 0 < cnt N (N 5).toNat) (h15 : cnt N (N 5).toNat ≤ 15) : Fn G k_B_letOut [oR G c, vI k] S (PN (fun S1 => ∃ B1, S1 = sB S c B1 ∧ BR B1 (out1 N k) ∧ (CurO (S c) N k → CurO B1 (out1 N k) (k + 1)))) := by
  obtain ⟨a1, ⟨a2, a3, a4, a5⟩, a6, a7, a8, a9⟩ := id hB
  obtain ⟨hr, i0, i1, i2, i3, i4, i5, i6⟩ := id hN
  have hc0 := cnt_0 N (N 5).toNat
  have hx := dr_rg (N 4)
  obtain ⟨i, q1, q2, q3, q4⟩ := out1_i hN hp
  have hm1 := Int.emod_nonneg (dr (N 4) / 65536) (show cnt N (N 5).toNat ≠ 0 by omega)
  have hm2 := Int.emod_lt_of_pos (dr (N 4) / 65536) hp
  have hB1 := hB.dr i5.1
  have hi0 : (0 : Int) ≤ (i : Int) := by omega
  have e10 : ub (S c) 1 0 (dr (N 4)) 10 0 = N 6 := by rw [ub_j (by decide)]; exact a5
  have e8 : ub (S c) 1 0 (dr (N 4)) 8 0 = cnt N (N 5).toNat := by rw [ub_j (by decide)]; exact a4
  have e9 : ub (S c) 1 0 (dr (N 4)) 9 (dr (N 4) / 65536 % cnt N (N 5).toNat).toNat = (i : Int) := by rw [ub_j (by decide), a7 _ hm1 hm2]; exact q4
  refine Fn.of [some (oR G c), some (vI k), none, none, none] 3 rfl (by decide +kernel) rfl (Nat.le_of_ble_eq_true rfl) (by decide) ?_
  refine Go_aload d_B_letOut_0 lg0 ⟨_, rfl⟩ ?_
  refine Go_V0i d_B_letOut_1 (kB (by first | assumption | decide | omega)) (c_B_nextDraw hc hB hN) (Nat.le_of_ble_eq_true rfl) ?_
  rintro z S1 ⟨rfl, rfl⟩
  refine Go_istore d_B_letOut_4 rfl sa2 ?_
  refine Go_aload d_B_letOut_5 lg0 ⟨_, rfl⟩ ?_
  refine Go_get d_B_letOut_6 (fb_8 (by first | assumption | decide | omega)) ?_
  refine Go_if_le d_B_letOut_9 (by rw [sB_s, e8]; omega) (fun h9 => absurd h9 (by rw [sB_s, e8]; omega)) (fun h9 => ?_)
  refine Go_iload d_B_letOut_12 lg1 ?_
  refine Go_const d_B_letOut_13 ?_
  refine Go_icmp_ge d_B_letOut_15 (by omega) (by omega) (fun h15 => absurd h15 (by omega)) (fun h15 => ?_)
  refine Go_aload d_B_letOut_18 lg0 ⟨_, rfl⟩ ?_
  refine Go_get d_B_letOut_19 (fb_10 (by first | assumption | decide | omega)) ?_
  refine Go_const d_B_letOut_22 ?_
  refine Go_icmp_lt d_B_letOut_24 (by rw [sB_s, e10]; omega) (by omega) (fun h24 => ?_) (fun h24 => absurd h24 (by rw [sB_s, e10]; omega))
  refine Go_iload d_B_letOut_28 lg2 ?_
  refine Go_aload d_B_letOut_29 lg0 ⟨_, rfl⟩ ?_
  refine Go_get d_B_letOut_30 (fb_8 (by first | assumption | decide | omega)) ?_
  rw [sB_s, e8]
  refine Go_irem d_B_letOut_33 (by omega) (by omega) ?_
  refine Go_istore d_B_letOut_34 rfl sa3 ?_
  refine Go_aload d_B_letOut_35 lg0 ⟨_, rfl⟩ ?_
  refine Go_get d_B_letOut_36 (fb_9 (by first | assumption | decide | omega)) ?_
  refine Go_iload d_B_letOut_39 lg3 ?_
  refine Go_iald d_B_letOut_40 (ab_9 (by first | assumption | decide | omega)) (by omega) ?_
  rw [sB_s, e9]
  refine Go_istore d_B_letOut_41 rfl sa4 ?_
  refine Go_aload d_B_letOut_43 lg0 ⟨_, rfl⟩ ?_
  refine Go_iload d_B_letOut_44 lg4 ?_
  refine Go_V1p d_B_letOut_46 (kB (by first | assumption | decide | omega)) (c_B_hasLetter (N := drN N) _ (by omega) hc (by rw [sB_s]; exact hB1) hN.dr) (Nat.le_of_ble_eq_true rfl) ?_
  refine Go_ifne_d d_B_letOut_49 (fun h49 => ?_) (fun h49 => absurd h49 (by rw [drN_k _ (by decide)]; omega))
  refine Go_aload d_B_letOut_53 lg0 ⟨_, rfl⟩ ?_
  refine Go_dup d_B_letOut_54 rfl ?_
  refine Go_get d_B_letOut_55 (fb_8 (by first | assumption | decide | omega)) ?_
  rw [sB_s, e8]
  refine Go_const d_B_letOut_58 ?_
  refine Go_isub d_B_letOut_59 ?_
  refine Go_put d_B_letOut_60 (wb_8 (by first | assumption | decide | omega) _) rfl rfl ?_
  refine Go_aload d_B_letOut_63 lg0 ⟨_, rfl⟩ ?_
  refine Go_get d_B_letOut_64 (fb_9 (by first | assumption | decide | omega)) ?_
  refine Go_iload d_B_letOut_67 lg3 ?_
  refine Go_const d_B_letOut_68 ?_
  refine Go_iadd d_B_letOut_69 ?_
  refine Go_aload d_B_letOut_70 lg0 ⟨_, rfl⟩ ?_
  refine Go_get d_B_letOut_71 (fb_9 (by first | assumption | decide | omega)) ?_
  refine Go_iload d_B_letOut_74 lg3 ?_
  refine Go_aload d_B_letOut_75 lg0 ⟨_, rfl⟩ ?_
  refine Go_get d_B_letOut_76 (fb_8 (by first | assumption | decide | omega)) ?_
  rw [st3_s]
  refine Go_iload d_B_letOut_79 lg3 ?_
  refine Go_isub d_B_letOut_80 ?_
  refine Go_copyI d_B_letOut_81 (ab_9 hc) (ab_9 hc) (by omega) (by omega) (by omega) (by omega) (by omega) (Nat.le_of_ble_eq_true rfl) ?_
  refine Go_aload d_B_letOut_84 lg0 ⟨_, rfl⟩ ?_
  refine Go_get d_B_letOut_85 (fb_6 (by first | assumption | decide | omega)) ?_
  refine Go_iload d_B_letOut_88 lg4 ?_
  refine Go_aload d_B_letOut_90 lg0 ⟨_, rfl⟩ ?_
  refine Go_get d_B_letOut_91 (fb_10 (by first | assumption | decide | omega)) ?_
  rw [show ∀ Z : St, (cpy3 Z c 9 c 9 (dr (N 4) / 65536 % cnt N (N 5).toNat + 1).toNat (dr (N 4) / 65536 % cnt N (N 5).toNat).toNat (cnt N (N 5).toNat - 1 - dr (N 4) / 65536 % cnt N (N 5).toNat).toNat) c 10 0 = Z c 10 0 from fun Z => if_neg (by omega), st3_j (by decide), sB_s, e10]
  refine Go_iast d_B_letOut_94 (ab_6 (by first | assumption | decide | omega)) (by omega) ?_
  refine Go_aload d_B_letOut_95 lg0 ⟨_, rfl⟩ ?_
  refine Go_get d_B_letOut_96 (fb_7 (by first | assumption | decide | omega)) ?_
  refine Go_iload d_B_letOut_99 lg4 ?_
  refine Go_iload d_B_letOut_101 lg1 ?_
  refine Go_iast d_B_letOut_102 (ab_7 (by first | assumption | decide | omega)) (by omega) ?_
  refine Go_aload d_B_letOut_103 lg0 ⟨_, rfl⟩ ?_
  refine Go_get d_B_letOut_104 (fb_12 (by first | assumption | decide | omega)) ?_
  refine Go_aload d_B_letOut_107 lg0 ⟨_, rfl⟩ ?_
  refine Go_get d_B_letOut_108 (fb_10 (by first | assumption | decide | omega)) ?_
  rw [st3_j (by decide), st3_j (by decide), show ∀ Z : St, (cpy3 Z c 9 c 9 (dr (N 4) / 65536 % cnt N (N 5).toNat + 1).toNat (dr (N 4) / 65536 % cnt N (N 5).toNat).toNat (cnt N (N 5).toNat - 1 - dr (N 4) / 65536 % cnt N (N 5).toNat).toNat) c 10 0 = Z c 10 0 from fun Z => if_neg (by omega), st3_j (by decide), sB_s, e10]
  refine Go_const d_B_letOut_111 ?_
  refine Go_imul d_B_letOut_113 ?_
  refine Go_iload d_B_letOut_114 lg1 ?_
  refine Go_iadd d_B_letOut_115 ?_
  refine Go_iload d_B_letOut_116 lg4 ?_
  refine Go_iast d_B_letOut_118 (ab_12 (by first | assumption | decide | omega)) (by omega) ?_
  refine Go_vretN d_B_letOut_119 ⟨goB (ub (S c) 1 0 (dr (N 4))) (dr (N 4) / 65536 % cnt N (N 5).toNat) (i : Int) k, ?_, ?_, ?_⟩
  · have := goB_st (S := S) (c := c) (B := ub (S c) 1 0 (dr (N 4))) (pl := dr (N 4) / 65536 % cnt N (N 5).toNat) (i := (i : Int)) (k := k) hm1 (by rw [e8]; exact hm2) hi0
    rw [e8, e10] at this
    exact this
  · have hg := hB1.go (i := i) (k := k) (by rw [drN_k _ (by decide)]; exact i5.1) (by rw [drN_k _ (by decide)]; exact i6.1) (by rw [drN_k _ (by decide)]; exact q1) (by rw [drN_lf _ hi0 (by decide)]; exact q2) hk.1
    rw [drN_cnt, q3] at hg
    unfold out1
    rw [q4]
    exact hg
  · intro hC
    have hC1 : CurO (ub (S c) 1 0 (dr (N 4))) (drN N) k := by
      obtain ⟨z1, z2⟩ := hC
      unfold CurO
      rw [drN_k _ (by decide), drN_k _ (by decide)]
      refine ⟨fun j hj hj5 => ?_, fun x hx hxk => ?_⟩
      · rw [drN_lf _ hj (by decide), drN_lf _ hj (by decide)]; exact z1 j hj hj5
      · rw [ub_j (by decide), lout_ext (N := N) (fun j a _ => by rw [drN_lf _ a (by decide), drN_lf _ a (by decide)])]
        exact z2 x hx hxk
    have hg := hC1.go (i := i) (pl := dr (N 4) / 65536 % cnt N (N 5).toNat) (by rw [e10, drN_k _ (by decide)]) (by rw [drN_k _ (by decide)]; exact i6.1) (by rw [drN_k _ (by decide)]; exact q1) (by rw [drN_lf _ hi0 (by decide)]; exact q2) hk.1
    unfold out1
    rw [q4]
    exact hg
theorem c_B_goRound0 (hc : 1 ≤ c ∧ c ≤ 14) (hB : BR (S c) N) (hN : NR N) : Fn G k_B_goRound [oR G c, vI 0] S (PV (vI 0) S) := by
  obtain ⟨a1, ⟨a2, a3, a4, a5⟩, a6, a7, a8, a9⟩ := id hB
  obtain ⟨hr, i0, i1, i2, i3, i4, i5, i6⟩ := id hN
  have hc0 := cnt_0 N (N 5).toNat
  refine Fn.of [some (oR G c), some (vI 0), none, none, none, none] 4 rfl (by decide +kernel) rfl (Nat.le_of_ble_eq_true rfl) (by decide) ?_
  refine Go_iload d_B_goRound_0 lg1 ?_
  refine Go_if_le d_B_goRound_1 (by omega) (fun h1 => ?_) (fun h1 => absurd h1 (by decide))
  refine Go_const d_B_goRound_13 ?_
  exact Go_iretV d_B_goRound_14 (by first | rfl | omega)
set_option maxHeartbeats 4000000 in
theorem c_B_goRound (hc : 1 ≤ c ∧ c ≤ 14) (hB : BR (S c) N) (hN : NR N) (hg : 1 ≤ rndGo N ∧ rndGo N ≤ cnt N (N 5).toNat + N 3) (h6 : N 6 < 12) (hd : N 5 + N 3 ≤ 79) (h15 : cnt N (N 5).toNat + N 3 ≤ 15) (hL : L0 N) (h8 : ∀ i : Int, 0 ≤ i → i < N 5 → lf N i 0 = 8 → lf N i 2 < N 6) : Fn G k_B_goRound [oR G c, vI (rndGo N)] S (PI (fun z S1 => z = rndGo N ∧ ∃ B1, S1 = sB S c B1 ∧ BR B1 (rndN N) ∧ CurO B1 (outsN (dumN N (N 3).toNat) (rndGo N).toNat) (rndGo N))) := by
  obtain ⟨a1, ⟨a2, a3, a4, a5⟩, a6, a7, a8, a9⟩ := id hB
  obtain ⟨hr, i0, i1, i2, i3, i4, i5, i6⟩ := id hN
  have hc0 := cnt_0 N (N 5).toNat
  obtain ⟨d1, d2, d3, d4⟩ := dum_f hN (N 3).toNat (by omega)
  have ed : (N 5 + ((N 3).toNat : Int)) = N 5 + N 3 := by omega
  rw [ed] at d2 d4
  have d6 : dumN N (N 3).toNat 6 = N 6 := d3 6 (by decide) (by decide) (by decide)
  have d33 : dumN N (N 3).toNat 3 = N 3 := d3 3 (by decide) (by decide) (by decide)
  have hL1 := dum_L0 hN hL (N 3).toNat (by omega)
  have hgo : ((rndGo N).toNat : Int) ≤ cnt (dumN N (N 3).toNat) (dumN N (N 3).toNat 5).toNat := by rw [d2]; omega
  have how1 := cP_rg (fun i => lf (dumN N (N 3).toNat) i 3 = -4 ∧ lf (dumN N (N 3).toNat) i 0 = 9) (N 5 + N 3).toNat
  have how1 : 0 ≤ ow (dumN N (N 3).toNat) (N 5 + N 3).toNat ∧ ow (dumN N (N 3).toNat) (N 5 + N 3).toNat ≤ ((N 5 + N 3).toNat : Int) := how1
  refine Fn.of [some (oR G c), some (vI (rndGo N)), none, none, none, none] 4 rfl (by decide +kernel) rfl (Nat.le_of_ble_eq_true rfl) (by decide) ?_

  have loop2 := loopI (fun k => ∀ B1, BR B1 (outsN (dumN N (N 3).toNat) k.toNat) → CurO B1 (outsN (dumN N (N 3).toNat) k.toNat) k → Go G k_B_goRound 59 [some (oR G c), some (vI (rndGo N)), some (vI (cnt (dumN N (N 3).toNat) (N 5 + N 3).toNat)), some (vI (ow (dumN N (N 3).toNat) (N 5 + N 3).toNat)), some (vI k), none] [] (sB S c B1) (PI (fun z S1 => z = rndGo N ∧ ∃ B1, S1 = sB S c B1 ∧ BR B1 (rndN N) ∧ CurO B1 (outsN (dumN N (N 3).toNat) (rndGo N).toNat) (rndGo N)))) (rndGo N) ?_ ?_
  have loop1 := loopI (fun k => ∀ B1, BR B1 (dumN N k.toNat) → Go G k_B_goRound 17 [some (oR G c), some (vI (rndGo N)), some (vI k), none, none, none] [] (sB S c B1) (PI (fun z S1 => z = rndGo N ∧ ∃ B1, S1 = sB S c B1 ∧ BR B1 (rndN N) ∧ CurO B1 (outsN (dumN N (N 3).toNat) (rndGo N).toNat) (rndGo N)))) (N 3) ?_ ?_
  refine Go_iload d_B_goRound_0 lg1 ?_
  refine Go_if_le d_B_goRound_1 (by omega) (fun h1 => absurd h1 (by omega)) (fun h1 => ?_)
  refine Go_aload d_B_goRound_4 lg0 ⟨_, rfl⟩ ?_
  refine Go_get d_B_goRound_5 (fb_10 (by first | assumption | decide | omega)) ?_
  refine Go_const d_B_goRound_8 ?_
  refine Go_icmp_lt d_B_goRound_10 (by omega) (by omega) (fun h10 => ?_) (fun h10 => absurd h10 (by omega))
  refine Go_const d_B_goRound_15 ?_
  refine Go_istore d_B_goRound_16 rfl sa2 ?_
  have := loop1 0 (by omega) (by omega) (S c) hB
  rw [sB_id] at this
  exact this
  · intro B1 hB1
    have b := hB1
    obtain ⟨b1, ⟨b2, b3, b4, b5⟩, b6, b7, b8, b9⟩ := b
    have e3 : sB S c B1 c 0 3 = N 3 := by rw [sB_s, b1 3 (by decide)]; exact d33
    have e8 : sB S c B1 c 8 0 = cnt (dumN N (N 3).toNat) (N 5 + N 3).toNat := by rw [sB_s, b4, d2]
    refine Go_iload d_B_goRound_17 lg2 ?_
    refine Go_aload d_B_goRound_18 lg0 ⟨_, rfl⟩ ?_
    refine Go_get d_B_goRound_19 (fb_0 (by first | assumption | decide | omega)) ?_
    refine Go_const d_B_goRound_22 ?_
    refine Go_ialdC (k0 := 3) d_B_goRound_23 (ab_0 (by first | assumption | decide | omega)) rfl (by decide) ?_
    refine Go_icmp_ge d_B_goRound_24 (by omega) (by rw [e3]; omega) (fun h24 => ?_) (fun h24 => absurd h24 (by rw [e3]; omega))
    refine Go_aload d_B_goRound_46 lg0 ⟨_, rfl⟩ ?_
    refine Go_get d_B_goRound_47 (fb_8 (by first | assumption | decide | omega)) ?_
    rw [e8]
    refine Go_istore d_B_goRound_50 rfl sa2 ?_
    refine Go_aload d_B_goRound_51 lg0 ⟨_, rfl⟩ ?_
    refine Go_V0p d_B_goRound_52 (kB (by first | assumption | decide | omega)) (c_B_ownWaiting (N := dumN N (N 3).toNat) hc (by rw [sB_s]; exact hB1) d1 (by rw [d2]; omega)) (Nat.le_of_ble_eq_true rfl) ?_
    rw [d2]
    refine Go_istore d_B_goRound_55 rfl sa3 ?_
    refine Go_const d_B_goRound_56 ?_
    refine Go_istore d_B_goRound_57 rfl sa4 ?_
    refine loop2 0 (by omega) (by omega) B1 hB1 ⟨fun i hi hi5 h3 => ?_, fun x hx hxk => by omega⟩
    exfalso
    have := (hL1 i hi hi5).2
    show False
    have h3' : lf (dumN N (N 3).toNat) i 3 = dumN N (N 3).toNat 6 := h3
    omega
  · intro k h0 h1 ih B1 hB1
    obtain ⟨g1, g2, g3, g4⟩ := dum_f hN k.toNat (by omega)
    have gk : (N 5 + (k.toNat : Int)) = N 5 + k := by omega
    rw [gk] at g2 g4
    have b := hB1
    obtain ⟨b1, ⟨b2, b3, b4, b5⟩, b6, b7, b8, b9⟩ := b
    have e3 : sB S c B1 c 0 3 = N 3 := by rw [sB_s, b1 3 (by decide)]; exact g3 3 (by decide) (by decide) (by decide)
    have hx := dr_rg (dumN N k.toNat 4)
    have gc : cnt (drN (dumN N k.toNat)) (drN (dumN N k.toNat) 5).toNat = cnt N (N 5).toNat + k := by rw [drN_cnt, drN_k _ (by decide), g2, g4]; omega
    refine Go_iload d_B_goRound_17 lg2 ?_
    refine Go_aload d_B_goRound_18 lg0 ⟨_, rfl⟩ ?_
    refine Go_get d_B_goRound_19 (fb_0 (by first | assumption | decide | omega)) ?_
    refine Go_const d_B_goRound_22 ?_
    refine Go_ialdC (k0 := 3) d_B_goRound_23 (ab_0 (by first | assumption | decide | omega)) rfl (by decide) ?_
    refine Go_icmp_ge d_B_goRound_24 (by omega) (by rw [e3]; omega) (fun h24 => absurd h24 (by rw [e3]; omega)) (fun h24 => ?_)
    refine Go_aload d_B_goRound_27 lg0 ⟨_, rfl⟩ ?_
    refine Go_const d_B_goRound_28 ?_
    refine Go_aload d_B_goRound_30 lg0 ⟨_, rfl⟩ ?_
    refine Go_V0i d_B_goRound_31 (kB (by first | assumption | decide | omega)) (c_B_nextDraw (N := dumN N k.toNat) hc (by rw [sB_s]; exact hB1) g1) (Nat.le_of_ble_eq_true rfl) ?_
    rintro z S1 ⟨rfl, rfl⟩
    rw [sB_sB, sB_s]
    refine Go_const d_B_goRound_34 ?_
    refine Go_irem d_B_goRound_36 (by omega) (by omega) ?_
    refine Go_V2n d_B_goRound_37 (kB (by first | assumption | decide | omega)) (c_B_add (N := drN (dumN N k.toNat)) _ _ hc (by rw [sB_s]; exact hB1.dr (by omega)) g1.dr (by rw [drN_k _ (by decide), g2]; omega) (by rw [gc]; omega)) (Nat.le_of_ble_eq_true rfl) ?_
    rintro S2 rfl
    rw [sB_sB, sB_s]
    refine Go_iinc d_B_goRound_40 lg2 rfl sa2 ?_
    refine Go_goto d_B_goRound_43 ?_
    have hn := (hB1.dr (by omega)).add (s := 8) (r0 := dr (dumN N k.toNat 4) / 65536 % 8) (by rw [drN_k _ (by decide), g2]; omega)
    refine ih _ ?_
    rw [show (k + 1).toNat = k.toNat + 1 by omega]
    exact hn
  · intro B1 hB1 hC
    obtain ⟨g1, g2, g3⟩ := outs_f d1 (rndGo N).toNat hgo
    rw [d2] at g3
    have hO := OI.outs d1 (rndGo N).toNat hgo
    have hf := rnd_facts (n := (N 5 + N 3).toNat) hL1 hO (by rw [d6]; omega) (by rw [d2]; omega)
    have p5 : outsN (dumN N (N 3).toNat) (rndGo N).toNat 5 = N 5 + N 3 := by rw [g2 5 (by decide) (by decide), d2]
    have p6 : outsN (dumN N (N 3).toNat) (rndGo N).toNat 6 = N 6 := by rw [g2 6 (by decide) (by decide), d6]
    have p3 : outsN (dumN N (N 3).toNat) (rndGo N).toNat 3 = N 3 := by rw [g2 3 (by decide) (by decide), d33]
    rw [d6] at hf
    have hd8 := dum_8 hN h8 (N 3).toNat (by omega)
    rw [ed] at hd8
    obtain ⟨f0, f1, f2, f3, f4, f5⟩ := hf
    rw [hd8] at f5
    have b := hB1
    obtain ⟨b1, ⟨b2, b3, b4, b5⟩, b6, b7, b8, b9⟩ := b
    have how2 := cP_rg (fun i => lf (outsN (dumN N (N 3).toNat) (rndGo N).toNat) i 3 = -4 ∧ lf (outsN (dumN N (N 3).toNat) (rndGo N).toNat) i 0 = 9) (N 5 + N 3).toNat
    have how2 : 0 ≤ ow (outsN (dumN N (N 3).toNat) (rndGo N).toNat) (N 5 + N 3).toNat ∧ ow (outsN (dumN N (N 3).toNat) (rndGo N).toNat) (N 5 + N 3).toNat ≤ ((N 5 + N 3).toNat : Int) := how2
    have e10 : B1 10 0 = N 6 := by rw [b5, p6]
    have e03 : B1 0 3 = N 3 := by rw [b1 3 (by decide), p3]
    refine Go_iload d_B_goRound_59 lg4 ?_
    refine Go_iload d_B_goRound_61 lg1 ?_
    refine Go_icmp_ge d_B_goRound_62 (by omega) (by omega) (fun h62 => ?_) (fun h62 => absurd h62 (by omega))
    refine Go_iload d_B_goRound_77 lg3 ?_
    refine Go_aload d_B_goRound_78 lg0 ⟨_, rfl⟩ ?_
    refine Go_V0p d_B_goRound_79 (kB (by first | assumption | decide | omega)) (c_B_ownWaiting (N := outsN (dumN N (N 3).toNat) (rndGo N).toNat) hc (by rw [sB_s]; exact hB1) g1 (by rw [p5, g3]; omega)) (Nat.le_of_ble_eq_true rfl) ?_
    rw [p5]
    refine Go_isub d_B_goRound_82 ?_
    refine Go_istore d_B_goRound_83 rfl sa4 ?_
    refine Go_aload d_B_goRound_85 lg0 ⟨_, rfl⟩ ?_
    refine Go_get d_B_goRound_86 (fb_10 (by first | assumption | decide | omega)) ?_
    rw [sB_s, e10]
    refine Go_const d_B_goRound_89 ?_
    refine Go_imul d_B_goRound_91 ?_
    refine Go_istore d_B_goRound_92 rfl sa5 ?_
    refine Go_aload d_B_goRound_94 lg0 ⟨_, rfl⟩ ?_
    refine Go_get d_B_goRound_95 (fb_11 (by first | assumption | decide | omega)) ?_
    refine Go_iload d_B_goRound_98 lg5 ?_
    refine Go_const d_B_goRound_100 ?_
    refine Go_iadd d_B_goRound_101 ?_
    refine Go_iload d_B_goRound_102 lg2 ?_
    refine Go_iast d_B_goRound_103 (ab_11 (by first | assumption | decide | omega)) (by omega) ?_
    refine Go_aload d_B_goRound_104 lg0 ⟨_, rfl⟩ ?_
    refine Go_get d_B_goRound_105 (fb_11 (by first | assumption | decide | omega)) ?_
    refine Go_iload d_B_goRound_108 lg5 ?_
    refine Go_const d_B_goRound_110 ?_
    refine Go_iadd d_B_goRound_111 ?_
    refine Go_iload d_B_goRound_112 lg1 ?_
    refine Go_iast d_B_goRound_113 (ab_11 (by first | assumption | decide | omega)) (by omega) ?_
    refine Go_aload d_B_goRound_114 lg0 ⟨_, rfl⟩ ?_
    refine Go_get d_B_goRound_115 (fb_11 (by first | assumption | decide | omega)) ?_
    refine Go_iload d_B_goRound_118 lg5 ?_
    refine Go_const d_B_goRound_120 ?_
    refine Go_iadd d_B_goRound_121 ?_
    refine Go_iload d_B_goRound_122 lg4 ?_
    refine Go_iast d_B_goRound_124 (ab_11 (by first | assumption | decide | omega)) (by omega) ?_
    refine Go_aload d_B_goRound_125 lg0 ⟨_, rfl⟩ ?_
    refine Go_get d_B_goRound_126 (fb_11 (by first | assumption | decide | omega)) ?_
    refine Go_iload d_B_goRound_129 lg5 ?_
    refine Go_const d_B_goRound_131 ?_
    refine Go_iadd d_B_goRound_132 ?_
    refine Go_iload d_B_goRound_133 lg2 ?_
    refine Go_iload d_B_goRound_134 lg3 ?_
    refine Go_isub d_B_goRound_135 ?_
    refine Go_iast d_B_goRound_136 (ab_11 (by first | assumption | decide | omega)) (by omega) ?_
    refine Go_aload d_B_goRound_137 lg0 ⟨_, rfl⟩ ?_
    refine Go_get d_B_goRound_138 (fb_11 (by first | assumption | decide | omega)) ?_
    refine Go_iload d_B_goRound_141 lg5 ?_
    refine Go_const d_B_goRound_143 ?_
    refine Go_iadd d_B_goRound_144 ?_
    refine Go_iload d_B_goRound_145 lg1 ?_
    refine Go_iload d_B_goRound_146 lg4 ?_
    refine Go_isub d_B_goRound_148 ?_
    refine Go_iast d_B_goRound_149 (ab_11 (by first | assumption | decide | omega)) (by omega) ?_
    refine Go_aload d_B_goRound_150 lg0 ⟨_, rfl⟩ ?_
    refine Go_get d_B_goRound_151 (fb_11 (by first | assumption | decide | omega)) ?_
    refine Go_iload d_B_goRound_154 lg5 ?_
    refine Go_const d_B_goRound_156 ?_
    refine Go_iadd d_B_goRound_157 ?_
    refine Go_aload d_B_goRound_158 lg0 ⟨_, rfl⟩ ?_
    refine Go_get d_B_goRound_159 (fb_0 (by first | assumption | decide | omega)) ?_
    refine Go_const d_B_goRound_162 ?_
    refine Go_ialdC (k0 := 3) d_B_goRound_163 (ab_0 (by first | assumption | decide | omega)) rfl (by decide) ?_
    rw [st3_j (by decide), st3_j (by decide), st3_j (by decide), st3_j (by decide), st3_j (by decide), sB_s, e03]
    refine Go_iast d_B_goRound_164 (ab_11 (by first | assumption | decide | omega)) (by omega) ?_
    refine Go_aload d_B_goRound_165 lg0 ⟨_, rfl⟩ ?_
    refine Go_dup d_B_goRound_166 rfl ?_
    refine Go_get d_B_goRound_167 (fb_10 (by first | assumption | decide | omega)) ?_
    rw [st3_j (by decide), st3_j (by decide), st3_j (by decide), st3_j (by decide), st3_j (by decide), st3_j (by decide), sB_s, e10]
    refine Go_const d_B_goRound_170 ?_
    refine Go_iadd d_B_goRound_171 ?_
    refine Go_put d_B_goRound_172 (wb_10 (by first | assumption | decide | omega) _) rfl rfl ?_
    refine Go_iload d_B_goRound_175 lg1 ?_
    refine Go_iretI d_B_goRound_176 ⟨rfl, rndB B1 (cnt (dumN N (N 3).toNat) (N 5 + N 3).toNat) (rndGo N) (ow (dumN N (N 3).toNat) (N 5 + N 3).toNat - ow (outsN (dumN N (N 3).toNat) (rndGo N).toNat) (N 5 + N 3).toNat) (cnt (dumN N (N 3).toNat) (N 5 + N 3).toNat - ow (dumN N (N 3).toNat) (N 5 + N 3).toNat) (rndGo N - (ow (dumN N (N 3).toNat) (N 5 + N 3).toNat - ow (outsN (dumN N (N 3).toNat) (rndGo N).toNat) (N 5 + N 3).toNat)) (N 3), ?_, ?_, ?_⟩
    · unfold rndB
      rw [e10]
      simp only [st3_sB2]
    · have hr := hB1.rnd (f0 := cnt (dumN N (N 3).toNat) (N 5 + N 3).toNat) (f1 := rndGo N) (f2 := ow (dumN N (N 3).toNat) (N 5 + N 3).toNat - ow (outsN (dumN N (N 3).toNat) (rndGo N).toNat) (N 5 + N 3).toNat) (f3 := cnt (dumN N (N 3).toNat) (N 5 + N 3).toNat - ow (dumN N (N 3).toNat) (N 5 + N 3).toNat) (f4 := rndGo N - (ow (dumN N (N 3).toNat) (N 5 + N 3).toNat - ow (outsN (dumN N (N 3).toNat) (rndGo N).toNat) (N 5 + N 3).toNat)) (f5 := N 3) (by rw [p6]; exact i6.1) (by exact hC) (by omega) (by rw [p5, p6, f0]) (by rw [p5, p6, f1, g3]; omega) (by rw [p5, p6, f2]) (by rw [p5, p6, f3]) (by rw [p5, p6, f4, g3]; omega) (by rw [p5, p6, f5]; omega)
      rw [p6] at hr
      exact hr
    · refine ⟨hC.1, fun x hx hxk => ?_⟩
      obtain ⟨z1, z2⟩ := hC.2 x hx hxk
      refine ⟨?_, z2⟩
      unfold rndB
      rw [ub_j (by decide), ub_j (by decide), ub_j (by decide), ub_j (by decide), ub_j (by decide), ub_j (by decide), ub_j (by decide)]
      exact z1
  · intro k h0 h1 ih B1 hB1 hC
    obtain ⟨g1, g2, g3⟩ := outs_f d1 k.toNat (by rw [d2]; omega)
    rw [d2] at g3
    have p5 : outsN (dumN N (N 3).toNat) k.toNat 5 = N 5 + N 3 := by rw [g2 5 (by decide) (by decide), d2]
    have p6 : outsN (dumN N (N 3).toNat) k.toNat 6 = N 6 := by rw [g2 6 (by decide) (by decide), d6]
    refine Go_iload d_B_goRound_59 lg4 ?_
    refine Go_iload d_B_goRound_61 lg1 ?_
    refine Go_icmp_ge d_B_goRound_62 (by omega) (by omega) (fun h62 => absurd h62 (by omega)) (fun h62 => ?_)
    refine Go_aload d_B_goRound_65 lg0 ⟨_, rfl⟩ ?_
    refine Go_iload d_B_goRound_66 lg4 ?_
    refine Go_V1n d_B_goRound_68 (kB (by first | assumption | decide | omega)) (c_B_letOut (N := outsN (dumN N (N 3).toNat) k.toNat) _ hc (by rw [sB_s]; exact hB1) g1 (by omega) (by rw [p6]; omega) (by rw [p5, g3]; omega) (by rw [p5, g3]; omega)) (Nat.le_of_ble_eq_true rfl) ?_
    rintro S1 ⟨B2, rfl, hB2, hC2⟩
    rw [sB_sB]
    rw [sB_s] at hC2
    refine Go_iinc d_B_goRound_71 lg4 rfl sa4 ?_
    refine Go_goto d_B_goRound_74 ?_
    refine ih B2 ?_ ?_
    · rw [show (k + 1).toNat = k.toNat + 1 by omega]
      show BR B2 (out1 (outsN (dumN N (N 3).toNat) k.toNat) (k.toNat : Int))
      rw [show ((k.toNat : Nat) : Int) = k by omega]
      exact hB2
    · rw [show (k + 1).toNat = k.toNat + 1 by omega]
      show CurO B2 (out1 (outsN (dumN N (N 3).toNat) k.toNat) (k.toNat : Int)) _
      rw [show ((k.toNat : Nat) : Int) = k by omega]
      exact hC2 hC
end Book2
