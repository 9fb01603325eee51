theorem rnd_left {N : Row} {T : Prop} (h : NR N) (hb : begP N (N 0) T (cnt N (N 5).toNat)) (hd : N 5 + N 3 ≤ 79) (h12 : cnt N (N 5).toNat ≤ 12) : cnt N (N 5).toNat + N 3 - rndGo N ≤ 12 ∧ rndGo N ≤ cnt N (N 5).toNat + N 3 := by
  obtain ⟨-, i0, i1, i2, i3, i4, i5, i6⟩ := id h
  obtain ⟨d1, d2, d3, d4⟩ := dum_f h (N 3).toNat (by omega)
  rw [show (N 5 + ((N 3).toNat : Int)).toNat = (N 5 + N 3).toNat by omega] at d4
  have hr := rnd_rg h hb hd
  unfold rndGo shr at hr ⊢
  rw [d4] at hr ⊢
  have h0 := cnt_0 N (N 5).toNat
  split
  · omega
  · split <;> omega
theorem lvV_1 {N : Row} {T : Prop} (h : NR N) (hd : N 5 + N 3 ≤ 79) (hb : begP N (N 0) T (cnt N (N 5).toNat)) : lvV N (N 0) T (cnt N (N 5).toNat) = rndGo N := by
  obtain ⟨-, i0, i1, i2, i3, i4, i5, i6⟩ := id h
  obtain ⟨d1, d2, d3, d4⟩ := dum_f h (N 3).toNat (by omega)
  rw [show (N 5 + ((N 3).toNat : Int)).toNat = (N 5 + N 3).toNat by omega] at d4
  unfold lvV rndGo
  rw [cif_pos hb, d4, show (((N 3).toNat : Nat) : Int) = N 3 by omega]
theorem lvV_0 {N : Row} {p : Int} {T : Prop} {x : Int} (hb : ¬ begP N p T x) : lvV N p T x = 0 := by unfold lvV; exact cif_neg hb
section Book3
variable {G : GT} {S : St} {c : Nat} {N : Row}
theorem c_B_takeLetter (s r0 : Int) (hc : 1 ≤ c ∧ c ≤ 14) (hB : BR (S c) N) (hW : WF N) (hs : 0 ≤ s ∧ s ≤ 9 ∧ s ≠ 8) (hr0 : 0 ≤ r0 ∧ r0 ≤ 7) (hf : ¬ (FullP N ∨ 12 ≤ cnt N (N 5).toNat)) : Fn G k_B_takeLetter [oR G c, vI s, vI r0] S (PI (fun z S1 => ∃ N1 B1, ComeR N s r0 z N1 ∧ WF N1 ∧ S1 = sB S c B1 ∧ BR B1 N1)) := by
  have hN := hW.1
  obtain ⟨a1, ⟨a2, a3, a4, a5⟩, a6, a7, a8, a9⟩ := id hB
  obtain ⟨hr, i0, i1, i2, i3, i4, i5, i6⟩ := id hN
  have hc0 := cnt_0 N (N 5).toNat
  have hf2 : N 5 < 76 ∧ N 6 < 12 ∧ cnt N (N 5).toNat < 12 := by unfold FullP at hf; omega
  have hN1 : NR (addN N s r0) := hN.add (by omega) (by omega) (by omega)
  have hW1 : WF (addN N s r0) := hW.add (by omega) hs hr0 (by omega)
  have hB1 : BR (addB (S c) s r0) (addN N s r0) := hB.add i5.1
  have e5 : addN N s r0 5 = N 5 + 1 := addN_5 _ _ _
  have e0 : addN N s r0 0 = N 0 := addN_k i5.1 (by decide) (by decide)
  have e3 : addN N s r0 3 = N 3 := addN_k i5.1 (by decide) (by decide)
  have e6 : addN N s r0 6 = N 6 := addN_k i5.1 (by decide) (by decide)
  have ec : cnt (addN N s r0) (addN N s r0 5).toNat = cnt N (N 5).toNat + 1 := by rw [e5]; exact addN_cnt i5.1
  have f0 : addB (S c) s r0 0 0 = addN N s r0 0 := hB1.1 0 (by decide)
  have f8 : addB (S c) s r0 8 0 = cnt (addN N s r0) (addN N s r0 5).toNat := hB1.2.1.2.2.1
  refine Fn.of [some (oR G c), some (vI s), some (vI r0)] 0 rfl (by decide +kernel) rfl (Nat.le_of_ble_eq_true rfl) (by decide) ?_
  refine Go_aload d_B_takeLetter_0 lg0 ⟨_, rfl⟩ ?_
  refine Go_iload d_B_takeLetter_1 lg1 ?_
  refine Go_iload d_B_takeLetter_2 lg2 ?_
  refine Go_V2n d_B_takeLetter_3 (kB (by first | assumption | decide | omega)) (c_B_add _ _ hc hB hN (by omega) (by omega)) (Nat.le_of_ble_eq_true rfl) ?_
  rintro S1 rfl
  refine Go_aload d_B_takeLetter_6 lg0 ⟨_, rfl⟩ ?_
  refine Go_aload d_B_takeLetter_7 lg0 ⟨_, rfl⟩ ?_
  refine Go_get d_B_takeLetter_8 (fb_0 (by first | assumption | decide | omega)) ?_
  refine Go_const d_B_takeLetter_11 ?_
  refine Go_ialdC (k0 := 0) d_B_takeLetter_12 (ab_0 (by first | assumption | decide | omega)) rfl (by decide) ?_
  rw [sB_s, f0]
  refine Go_aload d_B_takeLetter_13 lg0 ⟨_, rfl⟩ ?_
  refine Go_get d_B_takeLetter_14 (fb_0 (by first | assumption | decide | omega)) ?_
  refine Go_aload d_B_takeLetter_17 lg0 ⟨_, rfl⟩ ?_
  refine Go_get d_B_takeLetter_18 (fb_8 (by first | assumption | decide | omega)) ?_
  rw [sB_s, f8]
  refine Go_const d_B_takeLetter_21 ?_
  rw [show vI 0 = vI (bI False) from rfl]
  refine Go_S4p d_B_takeLetter_22 (c_B_leaving (N := addN N s r0) _ _ False hc (by omega) (by omega) (fun k hk => by rw [sB_s]; exact hB1.1 k hk) hN1) (Nat.le_of_ble_eq_true rfl) ?_
  by_cases hb : begP (addN N s r0) (addN N s r0 0) False (cnt (addN N s r0) (addN N s r0 5).toNat)
  · have hg := rnd_rg hN1 hb (by omega)
    have hl := rnd_left hN1 hb (by omega) (by omega)
    rw [lvV_1 hN1 (by omega) hb]
    refine Go_V1i d_B_takeLetter_25 (kB hc) (c_B_goRound (N := addN N s r0) hc (by rw [sB_s]; exact hB1) hN1 (by omega) (by omega) (by omega) (by omega) hW1.l0 (fun i a b q => (hW1.2.2.1 i a b).2.2.2.2 q)) (Nat.le_of_ble_eq_true rfl) ?_
    rintro z S2 ⟨rfl, B2, rfl, hB2, hC2⟩
    obtain ⟨d1, d2, d3, d4⟩ := dum_f hN1 (addN N s r0 3).toNat (by omega)
    obtain ⟨g1, g2, g3⟩ := outs_f d1 (rndGo (addN N s r0)).toNat (by rw [d2, show (addN N s r0 5 + ((addN N s r0 3).toNat : Int)).toNat = (addN N s r0 5 + addN N s r0 3).toNat by omega]; omega)
    have p5 : outsN (dumN (addN N s r0) (addN N s r0 3).toNat) (rndGo (addN N s r0)).toNat 5 = addN N s r0 5 + addN N s r0 3 := by rw [g2 5 (by decide) (by decide), d2]; omega
    have p6 : outsN (dumN (addN N s r0) (addN N s r0 3).toNat) (rndGo (addN N s r0)).toNat 6 = addN N s r0 6 := by rw [g2 6 (by decide) (by decide)]; exact d3 6 (by decide) (by decide) (by decide)
    refine Go_iretI d_B_takeLetter_28 ⟨_, B2, Or.inr (Or.inr ⟨hf, by rw [← ec, ← e0]; exact hb, rfl, rfl⟩), ?_, by rw [sB_sB], hB2⟩
    exact WF.rnd hN1 (by omega) (by omega) (by omega) hg (by omega) hW1.2.2.1 hW1.2.2.2 (fun i a b q => hC2.1 i a (by rw [p5]; exact b) (by rw [p6]; exact q))
  · rw [lvV_0 hb]
    refine Go_V1p d_B_takeLetter_25 (kB hc) (c_B_goRound0 (N := addN N s r0) hc (by rw [sB_s]; exact hB1) hN1) (Nat.le_of_ble_eq_true rfl) ?_
    exact Go_iretI d_B_takeLetter_28 ⟨_, _, Or.inr (Or.inl ⟨hf, by rw [← ec, ← e0]; exact hb, rfl, rfl⟩), hW1, rfl, hB1⟩
theorem c_B_hearTick (hc : 1 ≤ c ∧ c ≤ 14) (hB : BR (S c) N) (hW : WF N) (hf : ¬ FullP N) : Fn G k_B_hearTick [oR G c] S (PI (fun z S1 => ∃ N1 B1, TickR N z N1 ∧ WF N1 ∧ S1 = sB S c B1 ∧ BR B1 N1)) := by
  have hN := hW.1
  obtain ⟨a1, ⟨a2, a3, a4, a5⟩, a6, a7, a8, a9⟩ := id hB
  obtain ⟨hr, i0, i1, i2, i3, i4, i5, i6⟩ := id hN
  have hc0 := cnt_0 N (N 5).toNat
  have hf2 : N 5 < 76 ∧ N 6 < 12 := by unfold FullP at hf; omega
  have f0 : S c 0 0 = N 0 := hB.1 0 (by decide)
  have hc12 := hW.2.1
  refine Fn.of [some (oR G c)] 0 rfl (by decide +kernel) rfl (Nat.le_of_ble_eq_true rfl) (by decide) ?_
  refine Go_aload d_B_hearTick_0 lg0 ⟨_, rfl⟩ ?_
  refine Go_aload d_B_hearTick_1 lg0 ⟨_, rfl⟩ ?_
  refine Go_get d_B_hearTick_2 (fb_0 (by first | assumption | decide | omega)) ?_
  refine Go_const d_B_hearTick_5 ?_
  refine Go_ialdC (k0 := 0) d_B_hearTick_6 (ab_0 (by first | assumption | decide | omega)) rfl (by decide) ?_
  rw [f0]
  refine Go_aload d_B_hearTick_7 lg0 ⟨_, rfl⟩ ?_
  refine Go_get d_B_hearTick_8 (fb_0 (by first | assumption | decide | omega)) ?_
  refine Go_aload d_B_hearTick_11 lg0 ⟨_, rfl⟩ ?_
  refine Go_get d_B_hearTick_12 (fb_8 (by first | assumption | decide | omega)) ?_
  rw [a4]
  refine Go_const d_B_hearTick_15 ?_
  rw [show vI 1 = vI (bI True) from rfl]
  refine Go_S4p d_B_hearTick_16 (c_B_leaving (N := N) _ _ True hc (by omega) (by omega) a1 hN) (Nat.le_of_ble_eq_true rfl) ?_
  by_cases hb : begP N (N 0) True (cnt N (N 5).toNat)
  · have hg := rnd_rg hN hb (by omega)
    have hl := rnd_left hN hb (by omega) (by omega)
    rw [lvV_1 hN (by omega) hb]
    refine Go_V1i d_B_hearTick_19 (kB hc) (c_B_goRound hc hB hN (by omega) (by omega) (by omega) (by omega) hW.l0 (fun i a b q => (hW.2.2.1 i a b).2.2.2.2 q)) (Nat.le_of_ble_eq_true rfl) ?_
    rintro z S2 ⟨rfl, B2, rfl, hB2, hC2⟩
    obtain ⟨d1, d2, d3, d4⟩ := dum_f hN (N 3).toNat (by omega)
    obtain ⟨g1, g2, g3⟩ := outs_f d1 (rndGo N).toNat (by rw [d2, show (N 5 + ((N 3).toNat : Int)).toNat = (N 5 + N 3).toNat by omega]; omega)
    have p5 : outsN (dumN N (N 3).toNat) (rndGo N).toNat 5 = N 5 + N 3 := by rw [g2 5 (by decide) (by decide), d2]; omega
    have p6 : outsN (dumN N (N 3).toNat) (rndGo N).toNat 6 = N 6 := by rw [g2 6 (by decide) (by decide)]; exact d3 6 (by decide) (by decide) (by decide)
    refine Go_iretI d_B_hearTick_22 ⟨_, B2, Or.inr (Or.inr ⟨hf, hb, rfl, rfl⟩), ?_, rfl, hB2⟩
    exact WF.rnd hN (by omega) (by omega) (by omega) hg (by omega) hW.2.2.1 hW.2.2.2 (fun i a b q => hC2.1 i a (by rw [p5]; exact b) (by rw [p6]; exact q))
  · rw [lvV_0 hb]
    refine Go_V1p d_B_hearTick_19 (kB hc) (c_B_goRound0 hc hB hN) (Nat.le_of_ble_eq_true rfl) ?_
    exact Go_iretI d_B_hearTick_22 ⟨_, _, Or.inr (Or.inl ⟨hf, hb, rfl, rfl⟩), hW, (sB_id S c).symm, hB⟩
theorem c_B_clear (hc : 1 ≤ c ∧ c ≤ 14) : Fn G k_B_clear [oR G c] S (PN (fun S1 => S1 = sB S c (ub (ub (ub (S c) 2 0 0) 8 0 0) 10 0 0))) := by
  refine Fn.of [some (oR G c)] 0 rfl (by decide +kernel) rfl (Nat.le_of_ble_eq_true rfl) (by decide) ?_
  refine Go_aload d_B_clear_0 lg0 ⟨_, rfl⟩ ?_
  refine Go_const d_B_clear_1 ?_
  refine Go_put d_B_clear_2 (wb_2 (by first | assumption | decide | omega) _) rfl rfl ?_
  refine Go_aload d_B_clear_5 lg0 ⟨_, rfl⟩ ?_
  refine Go_const d_B_clear_6 ?_
  refine Go_put d_B_clear_7 (wb_8 (by first | assumption | decide | omega) _) rfl rfl ?_
  refine Go_aload d_B_clear_10 lg0 ⟨_, rfl⟩ ?_
  refine Go_const d_B_clear_11 ?_
  refine Go_put d_B_clear_12 (wb_10 (by first | assumption | decide | omega) _) rfl rfl ?_
  exact Go_vretN d_B_clear_15 (by simp only [st3_sB, sB_sB, sB_s])
def becB (B E : Bk) : Bk := fun j i => if j = 0 then (if i < 4 then E 0 i else B 0 i) else if j = 1 ∨ j = 2 ∨ j = 8 ∨ j = 10 then (if i = 0 then E j 0 else B j i) else if 3 ≤ j ∧ j ≤ 7 then (if i < (E 2 0).toNat then E j i else B j i) else if j = 9 then (if i < (E 8 0).toNat then E 9 i else B 9 i) else if j = 11 then (if i < (E 10 0 * 6).toNat then E 11 i else B 11 i) else if j = 12 then (if i < (E 10 0 * 15).toNat then E 12 i else B 12 i) else B j i
theorem BR.bec {B E : Bk} (h : BR E N) (h5 : 0 ≤ N 5) (h6 : 0 ≤ N 6) : BR (becB B E) N := by
  obtain ⟨a1, ⟨a2, a3, a4, a5⟩, a6, a7, a8, a9⟩ := h
  have hc0 := cnt_0 N (N 5).toNat
  unfold becB
  refine ⟨fun k hk => ?_, ⟨?_, ?_, ?_, ?_⟩, fun i hi hj => ?_, fun k h0 h1 => ?_, fun r v b1 b2 b3 b4 => ?_, fun r k b1 b2 b3 b4 => ?_⟩
  · simp [hk]; exact a1 k hk
  · simp; exact a2
  · simp; exact a3
  · simp; exact a4
  · simp; exact a5
  · have : i.toNat < (E 2 0).toNat := by rw [a3]; omega
    simp [this]; exact a6 i hi hj
  · have : k.toNat < (E 8 0).toNat := by rw [a4]; omega
    simp [this]; exact a7 k h0 h1
  · have : (r * 6 + v).toNat < (E 10 0 * 6).toNat := by rw [a5]; omega
    simp [this]; exact a8 r v b1 b2 b3 b4
  · obtain ⟨z1, z2, z3⟩ := a9 r k b1 b2 b3 b4
    have : (r * 15 + k).toNat < (E 10 0 * 15).toNat := by rw [a5]; omega
    simp [this]; exact ⟨z1, z2, z3⟩
set_option maxHeartbeats 4000000 in
theorem c_B_become {e : Nat} (hc : 1 ≤ c ∧ c ≤ 14) (he : 1 ≤ e ∧ e ≤ 14) (hce : c ≠ e) (hB : BR (S e) N) (hN : NR N) (h15 : cnt N (N 5).toNat ≤ 15) : Fn G k_B_become [oR G c, oR G e] S (PN (fun S1 => S1 = sB S c (becB (S c) (S e)))) := by
  obtain ⟨a1, ⟨a2, a3, a4, a5⟩, a6, a7, a8, a9⟩ := id hB
  obtain ⟨hr, i0, i1, i2, i3, i4, i5, i6⟩ := id hN
  have hc0 := cnt_0 N (N 5).toNat
  have hec : e ≠ c := fun q => hce q.symm
  refine Fn.of [some (oR G c), some (oR G e)] 0 rfl (by decide +kernel) rfl (Nat.le_of_ble_eq_true rfl) (by decide) ?_
  refine Go_aload d_B_become_0 lg1 ⟨_, rfl⟩ ?_
  refine Go_get d_B_become_1 (fb_0 (by first | assumption | decide | omega)) ?_
  refine Go_const d_B_become_4 ?_
  refine Go_aload d_B_become_5 lg0 ⟨_, rfl⟩ ?_
  refine Go_get d_B_become_6 (fb_0 (by first | assumption | decide | omega)) ?_
  refine Go_const d_B_become_9 ?_
  refine Go_const d_B_become_10 ?_
  refine Go_copyI d_B_become_11 (ab_0 (by first | assumption | omega)) (ab_0 (by first | assumption | omega)) (by omega) (by omega) (by omega) (by omega) (by omega) (Nat.le_of_ble_eq_true rfl) ?_
  refine Go_aload d_B_become_14 lg0 ⟨_, rfl⟩ ?_
  refine Go_aload d_B_become_15 lg1 ⟨_, rfl⟩ ?_
  refine Go_get d_B_become_16 (fb_1 (by first | assumption | decide | omega)) ?_
  simp only [st3, cpy3, hec, false_and, if_false]
  refine Go_put d_B_become_19 (wb_1 (by first | assumption | decide | omega) _) rfl rfl ?_
  refine Go_aload d_B_become_22 lg0 ⟨_, rfl⟩ ?_
  refine Go_aload d_B_become_23 lg1 ⟨_, rfl⟩ ?_
  refine Go_get d_B_become_24 (fb_2 (by first | assumption | decide | omega)) ?_
  simp only [st3, cpy3, hec, false_and, if_false]
  refine Go_put d_B_become_27 (wb_2 (by first | assumption | decide | omega) _) rfl rfl ?_
  refine Go_aload d_B_become_30 lg1 ⟨_, rfl⟩ ?_
  refine Go_get d_B_become_31 (fb_3 (by first | assumption | decide | omega)) ?_
  refine Go_const d_B_become_34 ?_
  refine Go_aload d_B_become_35 lg0 ⟨_, rfl⟩ ?_
  refine Go_get d_B_become_36 (fb_3 (by first | assumption | decide | omega)) ?_
  refine Go_const d_B_become_39 ?_
  refine Go_aload d_B_become_40 lg0 ⟨_, rfl⟩ ?_
  refine Go_get d_B_become_41 (fb_2 (by first | assumption | decide | omega)) ?_
  simp only [st3, cpy3, hec, false_and, if_false, true_and, and_true, if_true]
  (try simp)
  refine Go_copyI d_B_become_44 (ab_3 (by first | assumption | omega)) (ab_3 (by first | assumption | omega)) (by omega) (by omega) (by omega) (by omega) (by omega) (Nat.le_of_ble_eq_true rfl) ?_
  refine Go_aload d_B_become_47 lg1 ⟨_, rfl⟩ ?_
  refine Go_get d_B_become_48 (fb_4 (by first | assumption | decide | omega)) ?_
  refine Go_const d_B_become_51 ?_
  refine Go_aload d_B_become_52 lg0 ⟨_, rfl⟩ ?_
  refine Go_get d_B_become_53 (fb_4 (by first | assumption | decide | omega)) ?_
  refine Go_const d_B_become_56 ?_
  refine Go_aload d_B_become_57 lg0 ⟨_, rfl⟩ ?_
  refine Go_get d_B_become_58 (fb_2 (by first | assumption | decide | omega)) ?_
  simp only [st3, cpy3, hec, false_and, if_false, true_and, and_true, if_true]
  (try simp)
  refine Go_copyI d_B_become_61 (ab_4 (by first | assumption | omega)) (ab_4 (by first | assumption | omega)) (by omega) (by omega) (by omega) (by omega) (by omega) (Nat.le_of_ble_eq_true rfl) ?_
  refine Go_aload d_B_become_64 lg1 ⟨_, rfl⟩ ?_
  refine Go_get d_B_become_65 (fb_5 (by first | assumption | decide | omega)) ?_
  refine Go_const d_B_become_68 ?_
  refine Go_aload d_B_become_69 lg0 ⟨_, rfl⟩ ?_
  refine Go_get d_B_become_70 (fb_5 (by first | assumption | decide | omega)) ?_
  refine Go_const d_B_become_73 ?_
  refine Go_aload d_B_become_74 lg0 ⟨_, rfl⟩ ?_
  refine Go_get d_B_become_75 (fb_2 (by first | assumption | decide | omega)) ?_
  simp only [st3, cpy3, hec, false_and, if_false, true_and, and_true, if_true]
  (try simp)
  refine Go_copyI d_B_become_78 (ab_5 (by first | assumption | omega)) (ab_5 (by first | assumption | omega)) (by omega) (by omega) (by omega) (by omega) (by omega) (Nat.le_of_ble_eq_true rfl) ?_
  refine Go_aload d_B_become_81 lg1 ⟨_, rfl⟩ ?_
  refine Go_get d_B_become_82 (fb_6 (by first | assumption | decide | omega)) ?_
  refine Go_const d_B_become_85 ?_
  refine Go_aload d_B_become_86 lg0 ⟨_, rfl⟩ ?_
  refine Go_get d_B_become_87 (fb_6 (by first | assumption | decide | omega)) ?_
  refine Go_const d_B_become_90 ?_
  refine Go_aload d_B_become_91 lg0 ⟨_, rfl⟩ ?_
  refine Go_get d_B_become_92 (fb_2 (by first | assumption | decide | omega)) ?_
  simp only [st3, cpy3, hec, false_and, if_false, true_and, and_true, if_true]
  (try simp)
  refine Go_copyI d_B_become_95 (ab_6 (by first | assumption | omega)) (ab_6 (by first | assumption | omega)) (by omega) (by omega) (by omega) (by omega) (by omega) (Nat.le_of_ble_eq_true rfl) ?_
  refine Go_aload d_B_become_98 lg1 ⟨_, rfl⟩ ?_
  refine Go_get d_B_become_99 (fb_7 (by first | assumption | decide | omega)) ?_
  refine Go_const d_B_become_102 ?_
  refine Go_aload d_B_become_103 lg0 ⟨_, rfl⟩ ?_
  refine Go_get d_B_become_104 (fb_7 (by first | assumption | decide | omega)) ?_
  refine Go_const d_B_become_107 ?_
  refine Go_aload d_B_become_108 lg0 ⟨_, rfl⟩ ?_
  refine Go_get d_B_become_109 (fb_2 (by first | assumption | decide | omega)) ?_
  simp only [st3, cpy3, hec, false_and, if_false, true_and, and_true, if_true]
  (try simp)
  refine Go_copyI d_B_become_112 (ab_7 (by first | assumption | omega)) (ab_7 (by first | assumption | omega)) (by omega) (by omega) (by omega) (by omega) (by omega) (Nat.le_of_ble_eq_true rfl) ?_
  refine Go_aload d_B_become_115 lg0 ⟨_, rfl⟩ ?_
  refine Go_aload d_B_become_116 lg1 ⟨_, rfl⟩ ?_
  refine Go_get d_B_become_117 (fb_8 (by first | assumption | decide | omega)) ?_
  simp only [st3, cpy3, hec, false_and, if_false]
  refine Go_put d_B_become_120 (wb_8 (by first | assumption | decide | omega) _) rfl rfl ?_
  refine Go_aload d_B_become_123 lg1 ⟨_, rfl⟩ ?_
  refine Go_get d_B_become_124 (fb_9 (by first | assumption | decide | omega)) ?_
  refine Go_const d_B_become_127 ?_
  refine Go_aload d_B_become_128 lg0 ⟨_, rfl⟩ ?_
  refine Go_get d_B_become_129 (fb_9 (by first | assumption | decide | omega)) ?_
  refine Go_const d_B_become_132 ?_
  refine Go_aload d_B_become_133 lg0 ⟨_, rfl⟩ ?_
  refine Go_get d_B_become_134 (fb_8 (by first | assumption | decide | omega)) ?_
  simp only [st3, cpy3, hec, false_and, if_false, true_and, and_true, if_true]
  (try simp)
  refine Go_copyI d_B_become_137 (ab_9 (by first | assumption | omega)) (ab_9 (by first | assumption | omega)) (by omega) (by omega) (by omega) (by omega) (by omega) (Nat.le_of_ble_eq_true rfl) ?_
  refine Go_aload d_B_become_140 lg0 ⟨_, rfl⟩ ?_
  refine Go_aload d_B_become_141 lg1 ⟨_, rfl⟩ ?_
  refine Go_get d_B_become_142 (fb_10 (by first | assumption | decide | omega)) ?_
  simp only [st3, cpy3, hec, false_and, if_false]
  refine Go_put d_B_become_145 (wb_10 (by first | assumption | decide | omega) _) rfl rfl ?_
  refine Go_aload d_B_become_148 lg1 ⟨_, rfl⟩ ?_
  refine Go_get d_B_become_149 (fb_11 (by first | assumption | decide | omega)) ?_
  refine Go_const d_B_become_152 ?_
  refine Go_aload d_B_become_153 lg0 ⟨_, rfl⟩ ?_
  refine Go_get d_B_become_154 (fb_11 (by first | assumption | decide | omega)) ?_
  refine Go_const d_B_become_157 ?_
  refine Go_aload d_B_become_158 lg0 ⟨_, rfl⟩ ?_
  refine Go_get d_B_become_159 (fb_10 (by first | assumption | decide | omega)) ?_
  simp only [st3, cpy3, hec, false_and, if_false, true_and, and_true, if_true]
  (try simp)
  refine Go_const d_B_become_162 ?_
  refine Go_imul d_B_become_164 ?_
  refine Go_copyI d_B_become_165 (ab_11 (by first | assumption | omega)) (ab_11 (by first | assumption | omega)) (by omega) (by omega) (by omega) (by omega) (by omega) (Nat.le_of_ble_eq_true rfl) ?_
  refine Go_aload d_B_become_168 lg1 ⟨_, rfl⟩ ?_
  refine Go_get d_B_become_169 (fb_12 (by first | assumption | decide | omega)) ?_
  refine Go_const d_B_become_172 ?_
  refine Go_aload d_B_become_173 lg0 ⟨_, rfl⟩ ?_
  refine Go_get d_B_become_174 (fb_12 (by first | assumption | decide | omega)) ?_
  refine Go_const d_B_become_177 ?_
  refine Go_aload d_B_become_178 lg0 ⟨_, rfl⟩ ?_
  refine Go_get d_B_become_179 (fb_10 (by first | assumption | decide | omega)) ?_
  simp only [st3, cpy3, hec, false_and, if_false, true_and, and_true, if_true]
  (try simp)
  refine Go_const d_B_become_182 ?_
  refine Go_imul d_B_become_184 ?_
  refine Go_copyI d_B_become_185 (ab_12 (by first | assumption | omega)) (ab_12 (by first | assumption | omega)) (by omega) (by omega) (by omega) (by omega) (by omega) (Nat.le_of_ble_eq_true rfl) ?_
  refine Go_vretN d_B_become_188 ?_
  funext c1 j x
  by_cases hcc : c1 = c
  · subst hcc
    rw [sB_s]
    unfold becB
    rcases (show j = 0 ∨ j = 1 ∨ j = 2 ∨ j = 3 ∨ j = 4 ∨ j = 5 ∨ j = 6 ∨ j = 7 ∨ j = 8 ∨ j = 9 ∨ j = 10 ∨ j = 11 ∨ j = 12 ∨ 12 < j by omega) with rfl | rfl | rfl | rfl | rfl | rfl | rfl | rfl | rfl | rfl | rfl | rfl | rfl | hj
    all_goals first
      | (simp [st3, cpy3, hec]; done)
      | (simp [st3, cpy3, hec, show j ≠ 0 by omega, show j ≠ 1 by omega, show j ≠ 2 by omega, show j ≠ 3 by omega, show j ≠ 4 by omega, show j ≠ 5 by omega, show j ≠ 6 by omega, show j ≠ 7 by omega, show j ≠ 8 by omega, show j ≠ 9 by omega, show j ≠ 10 by omega, show j ≠ 11 by omega, show j ≠ 12 by omega]; try omega)
  · rw [sB_c hcc]
    simp [st3, cpy3, hcc]
end Book3
