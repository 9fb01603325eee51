theorem CS.fr {S S1 : St} {N A : Row} (h : CS S N A) (hf : ∀ c, (c = 15 ∨ (1 ≤ c ∧ c ≤ 7)) → S1 c = S c) : CS S1 N A :=
  ⟨by rw [hf 1 (by decide)]; exact h.1, h.2.1, h.2.2.1.fr (fun c hc => hf c (by omega)), h.2.2.2⟩
section XTape
variable {G : GT} {S : St} {N A T : Row} {L : Int}
theorem c_T_add (x : Int) (hL : 0 ≤ S 17 1 0 ∧ S 17 1 0 < 90) : Fn G k_T_add [oR G 17, vI x] S (PN (fun S1 => S1 = st3 (st3 S 17 0 (S 17 1 0).toNat x) 17 1 0 (S 17 1 0 + 1))) := by
  refine Fn.of [some (oR G 17), some (vI x)] 0 rfl (by decide +kernel) rfl (Nat.le_of_ble_eq_true rfl) (by decide) ?_
  refine Go_aload d_T_add_0 lg0 ⟨_, rfl⟩ ?_
  refine Go_get d_T_add_1 ft_1 ?_
  refine Go_const d_T_add_4 ?_
  refine Go_icmp_ge d_T_add_6 (by omega) (by omega) (fun h6 => absurd h6 (by omega)) (fun h6 => ?_)
  refine Go_aload d_T_add_9 lg0 ⟨_, rfl⟩ ?_
  refine Go_get d_T_add_10 ft_0 ?_
  refine Go_aload d_T_add_13 lg0 ⟨_, rfl⟩ ?_
  refine Go_get d_T_add_14 ft_1 ?_
  refine Go_iload d_T_add_17 lg1 ?_
  refine Go_iast d_T_add_18 at_0 (by omega) ?_
  refine Go_aload d_T_add_19 lg0 ⟨_, rfl⟩ ?_
  refine Go_dup d_T_add_20 rfl ?_
  refine Go_get d_T_add_21 ft_1 ?_
  rw [st3_j (by decide)]
  refine Go_const d_T_add_24 ?_
  refine Go_iadd d_T_add_25 ?_
  refine Go_put d_T_add_26 (wt_1 _) rfl rfl ?_
  exact Go_vretN d_T_add_29 rfl
theorem c_X_type (x : Int) (hx : -2147483648 ≤ x ∧ x < 2147483648) (hT : TOk (S 17 0) (S 17 1 0)) : Fn G k_X_type [oR G 0, vI x] S (PI (fun z S1 => (¬ (32 ≤ x ∧ x ≤ 126) ∧ z = -1 ∧ S1 = S) ∨ ((32 ≤ x ∧ x ≤ 126) ∧ S 17 1 0 = 90 ∧ z = -3 ∧ S1 = S) ∨ ((32 ≤ x ∧ x ≤ 126) ∧ S 17 1 0 < 90 ∧ z = S 17 1 0 + 1 ∧ S1 = st3 (st3 S 17 0 (S 17 1 0).toNat x) 17 1 0 (S 17 1 0 + 1)))) := by
  have hL := hT.1
  refine Fn.of [some (oR G 0), some (vI x)] 0 rfl (by decide +kernel) rfl (Nat.le_of_ble_eq_true rfl) (by decide) ?_
  refine Go_iload d_X_type_0 lg1 ?_
  refine Go_const d_X_type_1 ?_
  refine Go_const d_X_type_3 ?_
  refine Go_S3p d_X_type_5 (c_X_within _ _ _ (by omega) (by omega) (by omega)) (Nat.le_of_ble_eq_true rfl) ?_
  refine Go_ifne_d d_X_type_8 (fun h8 => ?_) (fun h8 => ?_)
  · refine Go_aload d_X_type_13 lg0 ⟨_, rfl⟩ ?_
    refine Go_get d_X_type_14 fx_5 ?_
    refine Go_get d_X_type_17 ft_1 ?_
    refine Go_const d_X_type_20 ?_
    refine Go_icmp_lt d_X_type_22 (by omega) (by omega) (fun h22 => ?_) (fun h22 => ?_)
    · refine Go_aload d_X_type_28 lg0 ⟨_, rfl⟩ ?_
      refine Go_get d_X_type_29 fx_5 ?_
      refine Go_iload d_X_type_32 lg1 ?_
      refine Go_V1n d_X_type_33 kT (c_T_add _ (by omega)) (Nat.le_of_ble_eq_true rfl) ?_
      rintro S1 rfl
      refine Go_aload d_X_type_36 lg0 ⟨_, rfl⟩ ?_
      refine Go_get d_X_type_37 fx_5 ?_
      refine Go_get d_X_type_40 ft_1 ?_
      exact Go_iretI d_X_type_43 (Or.inr (Or.inr ⟨h8, by omega, st3_s _ _ _ _ _, rfl⟩))
    · refine Go_const d_X_type_25 ?_
      exact Go_iretI d_X_type_27 (Or.inr (Or.inl ⟨h8, by omega, rfl, rfl⟩))
  · refine Go_const d_X_type_11 ?_
    exact Go_iretI d_X_type_12 (Or.inl ⟨h8, rfl, rfl⟩)
theorem c_X_play (i c : Int) (hi : 0 ≤ i ∧ i ≤ 89) (hs : S 17 2 i.toNat = sndC c) (hr0 : S 17 3 i.toNat = rcvC c) (hc : c = 99 ∨ ((0 ≤ c / 10 ∧ c / 10 ≤ 9 ∧ c / 10 ≠ 8) ∧ c % 10 ≤ 7 ∧ c ≤ 97)) (hC : CS S N A) : Fn G k_X_play [oR G 0, vI i] S (PI (fun z S1 => (((evDo N c).1 < 0 ∧ z = 0) ∨ (0 ≤ (evDo N c).1 ∧ z = 1)) ∧ CS S1 (evDo N c).2 A ∧ S1 15 2 0 = S 15 2 0 ∧ FrC S S1)) := by
  have hk : (c = 99 ∧ S 17 2 i.toNat = -1) ∨ (c ≠ 99 ∧ S 17 2 i.toNat = c / 10 ∧ S 17 3 i.toNat = c % 10) := by
    rw [hs, hr0]; unfold sndC rcvC; split <;> omega
  refine Fn.of [some (oR G 0), some (vI i), none] 1 rfl (by decide +kernel) rfl (Nat.le_of_ble_eq_true rfl) (by decide) ?_
  refine Go_iload d_X_play_0 lg1 ?_
  refine Go_const d_X_play_1 ?_
  refine Go_const d_X_play_2 ?_
  refine Go_S3p d_X_play_4 (c_X_within _ _ _ (by omega) (by omega) (by omega)) (Nat.le_of_ble_eq_true rfl) ?_
  refine Go_ifne_d d_X_play_7 (fun h7 => ?_) (fun h7 => absurd h7 (by omega))
  refine Go_aload d_X_play_12 lg0 ⟨_, rfl⟩ ?_
  refine Go_get d_X_play_13 fx_5 ?_
  refine Go_get d_X_play_16 ft_2 ?_
  refine Go_iload d_X_play_19 lg1 ?_
  refine Go_iald d_X_play_20 at_2 (by omega) ?_
  refine Go_istore d_X_play_21 rfl sa2 ?_
  refine Go_iload d_X_play_22 lg2 ?_
  refine Go_const d_X_play_23 ?_
  refine Go_icmp_ne d_X_play_24 (by omega) (by omega) (fun h24 => ?_) (fun h24 => ?_)
  · refine Go_aload d_X_play_34 lg0 ⟨_, rfl⟩ ?_
    refine Go_iload d_X_play_35 lg2 ?_
    refine Go_aload d_X_play_36 lg0 ⟨_, rfl⟩ ?_
    refine Go_get d_X_play_37 fx_5 ?_
    refine Go_get d_X_play_40 ft_3 ?_
    refine Go_iload d_X_play_43 lg1 ?_
    refine Go_iald d_X_play_44 at_3 (by omega) ?_
    refine Go_V2i d_X_play_45 kX (c_X_takeIfRoom _ _ (by omega) (by omega) hC) (Nat.le_of_ble_eq_true rfl) ?_
    rintro z S1 ⟨q1, q2⟩
    first
      | (refine Go_zretI d_X_play_48 (by omega) ?_
         have e : evDo N c = tickF N := by unfold evDo; rw [if_pos (by omega)]
         rw [e]
         exact ⟨q1, q2⟩)
      | (refine Go_zretI d_X_play_48 (by omega) ?_
         have e : evDo N c = comeF N (S 17 2 i.toNat) (S 17 3 i.toNat) := by unfold evDo; rw [if_neg (by omega), show S 17 2 i.toNat = c / 10 by omega, show S 17 3 i.toNat = c % 10 by omega]
         rw [e]
         exact ⟨q1, q2⟩)
  · refine Go_aload d_X_play_27 lg0 ⟨_, rfl⟩ ?_
    refine Go_V0i d_X_play_28 kX (c_X_tickIfHeard hC) (Nat.le_of_ble_eq_true rfl) ?_
    rintro z S1 ⟨q1, q2⟩
    refine Go_goto d_X_play_31 ?_
    first
      | (refine Go_zretI d_X_play_48 (by omega) ?_
         have e : evDo N c = tickF N := by unfold evDo; rw [if_pos (by omega)]
         rw [e]
         exact ⟨q1, q2⟩)
      | (refine Go_zretI d_X_play_48 (by omega) ?_
         have e : evDo N c = comeF N (S 17 2 i.toNat) (S 17 3 i.toNat) := by unfold evDo; rw [if_neg (by omega), show S 17 2 i.toNat = c / 10 by omega, show S 17 3 i.toNat = c % 10 by omega]
         rw [e]
         exact ⟨q1, q2⟩)
theorem c_X_read (e0 : S 17 0 = T) (e1 : S 17 1 0 = L) (hT : TOk T L) (hC : CS S N A) : Fn G k_X_read [oR G 0] S (PI (fun z S1 => ((gth T L 91 0 0).1 = false ∧ z = -20 - (gth T L 91 0 0).2.2 ∧ CS S1 N A ∧ S1 15 2 0 = S 15 2 0 ∧ (S1 17 0 = S 17 0 ∧ S1 17 1 0 = 0 ∧ ∀ c, c ≠ 1 → c ≠ 15 → c ≠ 17 → ¬ (2 ≤ c ∧ c ≤ 7) → S1 c = S c)) ∨ ((gth T L 91 0 0).1 = true ∧ z = (gthD T L 91 0 0 N).1 ∧ CS S1 (gthD T L 91 0 0 N).2.2 (noteA A (S 15 2 0) N) ∧ S1 15 2 0 = noteU (S 15 2 0) ∧ (S1 17 0 = S 17 0 ∧ S1 17 1 0 = 0 ∧ ∀ c, c ≠ 1 → c ≠ 15 → c ≠ 17 → ¬ (2 ≤ c ∧ c ≤ 7) → S1 c = S c)))) := by
  have hL := hT.1
  have hg := gth_rg hT 91 0 0 (by omega) (by omega) (by omega)
  have hgd := gthD_e hT 91 0 0 N (by omega) (by omega) (by omega)
  have hGR : gth T L (91 - (0 : Int)).toNat 0 (posK T L (0 : Int).toNat) = gth T L 91 0 0 := rfl
  have hDR : gthD T L (91 - (0 : Int)).toNat 0 (posK T L (0 : Int).toNat) N = gthD T L 91 0 0 N := rfl
  have hc0 := codK
  generalize gth T L 91 0 0 = GR at hg hGR
  generalize gthD T L 91 0 0 N = DR at hgd hDR
  clear hc0
  refine Fn.of [some (oR G 0), none, none] 2 rfl (by decide +kernel) rfl (Nat.le_of_ble_eq_true rfl) (by decide) ?_

  refine Go_aload d_X_read_0 lg0 ⟨_, rfl⟩ ?_
  refine Go_get d_X_read_1 fx_5 ?_
  refine Go_V0i d_X_read_4 kT (c_T_parse e0 e1 hT) (Nat.le_of_ble_eq_true rfl) ?_
  rintro z S1 ⟨f1, f2⟩
  rw [show gth T L 91 0 0 = GR from hGR] at f2
  have hS2 : st3 S1 17 1 0 0 = sB S1 17 (ub (S1 17) 1 0 0) := st3_sB _ _ _ _ _
  generalize hS2e : sB S1 17 (ub (S1 17) 1 0 0) = S2 at hS2
  have r0 : S2 17 0 = S 17 0 := by rw [← hS2, ← f1.1]; funext x; rw [st3_j (by decide)]
  have r1 : S2 17 1 0 = 0 := by rw [← hS2]; exact st3_s _ _ _ _ _
  have r2 : ∀ c, c ≠ 17 → S2 c = S c := fun c hc => by rw [← hS2e, sB_c hc]; exact f1.2.2 c hc
  have hC2 : CS S2 N A := hC.fr (fun c hc => r2 c (by omega))
  have u15 : S2 15 2 0 = S 15 2 0 := by rw [r2 15 (by decide)]
  rcases f2 with ⟨f3, rfl⟩ | ⟨f3, rfl, f4, f5⟩
  · clear hDR
    refine Go_istore d_X_read_7 rfl sa1 ?_
    refine Go_aload d_X_read_8 lg0 ⟨_, rfl⟩ ?_
    refine Go_get d_X_read_9 fx_5 ?_
    refine Go_const d_X_read_12 ?_
    refine Go_put d_X_read_13 (wt_1 _) rfl rfl ?_
    rw [hS2]
    refine Go_iload d_X_read_16 lg1 ?_
    refine Go_if_lt d_X_read_17 (by omega) (fun h17 => absurd h17 (by omega)) (fun h17 => ?_)
    refine Go_const d_X_read_20 ?_
    refine Go_iload d_X_read_22 lg1 ?_
    refine Go_isub d_X_read_23 ?_
    exact Go_iretI d_X_read_24 (Or.inl ⟨f3, rfl, hC2, u15, r0, r1, fun c _ _ c3 _ => r2 c c3⟩)
  · have r4 : S2 17 4 0 = GR.2.1 := by rw [← hS2, st3_j (by decide)]; exact f4
    have r5 : EvA S2 T L GR.2.1 := fun k hk => by rw [← hS2, st3_j (by decide), st3_j (by decide)]; exact f5 k hk
    clear f4 f5
    refine Go_istore d_X_read_7 rfl sa1 ?_
    refine Go_aload d_X_read_8 lg0 ⟨_, rfl⟩ ?_
    refine Go_get d_X_read_9 fx_5 ?_
    refine Go_const d_X_read_12 ?_
    refine Go_put d_X_read_13 (wt_1 _) rfl rfl ?_
    rw [hS2]
    refine Go_iload d_X_read_16 lg1 ?_
    refine Go_if_lt d_X_read_17 (by omega) (fun h17 => ?_) (fun h17 => absurd h17 (by decide))
    refine Go_aload d_X_read_25 lg0 ⟨_, rfl⟩ ?_
    refine Go_get d_X_read_26 fx_1 ?_
    refine Go_aload d_X_read_29 lg0 ⟨_, rfl⟩ ?_
    refine Go_get d_X_read_30 fx_0 ?_
    refine Go_V1n d_X_read_33 (kP (by first | assumption | decide | omega)) (c_P_remember hC2.1 hC2.2.1 hC2.2.2.1 hC2.2.2.2) (Nat.le_of_ble_eq_true rfl) ?_
    rintro S3 ⟨q1, q2, q3⟩
    obtain ⟨hC3, hF3⟩ := hC2.rem q1 (hC2.2.2.2.note hC2.2.1.1.1 _) q3
    rw [u15] at q1 q2 hC3
    have s17 : S3 17 = S2 17 := q3 17 (by decide) (by decide)
    refine Go_const d_X_read_36 ?_
    refine Go_istore d_X_read_37 rfl sa2 ?_
    have t0 : S3 17 0 = S 17 0 := by rw [s17]; exact r0
    have t1 : S3 17 1 0 = 0 := by rw [s17]; exact r1
    have t2 : ∀ c, c ≠ 1 → c ≠ 15 → c ≠ 17 → ¬ (2 ≤ c ∧ c ≤ 7) → S3 c = S c := fun c c1 c2 c3 c4 => by rw [hF3 c c1 c2 c4]; exact r2 c c3
    have f4 : S3 17 4 0 = GR.2.1 := by rw [s17]; exact r4
    have f5 : EvA S3 T L GR.2.1 := fun k hk => by rw [s17]; exact r5 k hk
    have loop := loopI (fun e => ∀ (S4 : St) (N4 : Row), CS S4 N4 (noteA A (S 15 2 0) N) → S4 15 2 0 = noteU (S 15 2 0) → FrC S3 S4 → (e ≤ posK T L e.toNat ∧ posK T L e.toNat ≤ L) → gth T L (91 - e).toNat e (posK T L e.toNat) = GR → gthD T L (91 - e).toNat e (posK T L e.toNat) N4 = DR → Go G k_X_read 38 [some (oR G 0), some (vI (-1)), some (vI e)] [] S4 (PI (fun z S1 => (GR.1 = false ∧ z = -20 - GR.2.2 ∧ CS S1 N A ∧ S1 15 2 0 = S 15 2 0 ∧ (S1 17 0 = S 17 0 ∧ S1 17 1 0 = 0 ∧ ∀ c, c ≠ 1 → c ≠ 15 → c ≠ 17 → ¬ (2 ≤ c ∧ c ≤ 7) → S1 c = S c)) ∨ (GR.1 = true ∧ z = DR.1 ∧ CS S1 DR.2.2 (noteA A (S 15 2 0) N) ∧ S1 15 2 0 = noteU (S 15 2 0) ∧ (S1 17 0 = S 17 0 ∧ S1 17 1 0 = 0 ∧ ∀ c, c ≠ 1 → c ≠ 15 → c ≠ 17 → ¬ (2 ≤ c ∧ c ≤ 7) → S1 c = S c))))) GR.2.1 ?_ ?_
    · exact loop 0 (by omega) (by omega) S3 N hC3 q2 (FrC.rf S3) (by show (0 : Int) ≤ 0 ∧ (0 : Int) ≤ L; omega) hGR hDR
    · intro S4 N4 g1 g2 g3 g4 g5 g6
      have k17a : S4 17 = S3 17 := g3 17 (by decide) (by decide) (by decide)
      have k17 : S4 17 4 0 = S3 17 4 0 := by rw [k17a]
      have hstop : gthD T L (91 - GR.2.1).toNat GR.2.1 (posK T L GR.2.1.toNat) N4 = (GR.2.1, (gthD T L (91 - GR.2.1).toNat GR.2.1 (posK T L GR.2.1.toNat) N4).2.1, N4) := by
        rw [show (91 - GR.2.1).toNat = (90 - GR.2.1).toNat + 1 by omega] at g5 ⊢
        rw [gth_S] at g5
        rw [gthD_S]
        by_cases z1 : GR.2.1 ≠ 0 ∧ L ≤ skp T L (posK T L GR.2.1.toNat)
        · rw [if_pos z1]
        · rw [if_neg z1] at g5
          by_cases z2 : (evF T L (posK T L GR.2.1.toNat)).1 < 0
          · rw [if_pos z2] at g5
            rw [← g5] at f3; exact absurd (show false = true from f3) (by decide)
          · rw [if_neg z2] at g5
            have := gth_le (T := T) (L := L) (90 - GR.2.1).toNat (GR.2.1 + 1) (evF T L (posK T L GR.2.1.toNat)).2
            rw [g5] at this
            omega
      refine Go_iload d_X_read_38 lg2 ?_
      refine Go_aload d_X_read_39 lg0 ⟨_, rfl⟩ ?_
      refine Go_get d_X_read_40 fx_5 ?_
      refine Go_get d_X_read_43 ft_4 ?_
      refine Go_icmp_ge d_X_read_46 (by omega) (by rw [k17, f4]; omega) (fun h46 => ?_) (fun h46 => absurd h46 (by rw [k17, f4]; omega))
      refine Go_iload d_X_read_63 lg2 ?_
      refine Go_iretI d_X_read_64 (Or.inr ⟨f3, ?_, ?_, g2, ?_⟩)
      · rw [← g6, hstop]
      · rw [← g6, hstop]; exact g1
      · rw [k17a]; exact ⟨t0, t1, fun c c1 c2 c3 c4 => by rw [g3 c c1 c2 c4]; exact t2 c c1 c2 c3 c4⟩
    · intro e h0 h1 ih S4 N4 g1 g2 g3 g4 g5 g6
      have k17a : S4 17 = S3 17 := g3 17 (by decide) (by decide) (by decide)
      have k17 : S4 17 4 0 = S3 17 4 0 := by rw [k17a]
      have hpos : posK T L (e + 1).toNat = (evF T L (posK T L e.toNat)).2 := by rw [show (e + 1).toNat = e.toNat + 1 by omega]; rfl
      rw [show (91 - e).toNat = (91 - (e + 1)).toNat + 1 by omega] at g5 g6
      rw [gth_S] at g5
      rw [gthD_S] at g6
      have hst : ¬ (e ≠ 0 ∧ L ≤ skp T L (posK T L e.toNat)) := by
        intro z1; rw [if_pos z1] at g5; rw [← g5] at h1; exact absurd h1 (by dsimp only; omega)
      have hcn : 0 ≤ codK T L e.toNat := by
        by_cases z2 : (evF T L (posK T L e.toNat)).1 < 0
        · rw [if_neg hst, if_pos z2] at g5
          rw [← g5] at f3; exact absurd (show false = true from f3) (by decide)
        · unfold codK; omega
      have hrg := evF_rg hT (p := posK T L e.toNat) (by omega)
      have hrg4 := hrg.2.2.2 hcn
      have hck : (evF T L (posK T L e.toNat)).1 = codK T L e.toNat := rfl
      rw [hck] at g5 g6
      refine Go_iload d_X_read_38 lg2 ?_
      refine Go_aload d_X_read_39 lg0 ⟨_, rfl⟩ ?_
      refine Go_get d_X_read_40 fx_5 ?_
      refine Go_get d_X_read_43 ft_4 ?_
      refine Go_icmp_ge d_X_read_46 (by omega) (by rw [k17, f4]; omega) (fun h46 => absurd h46 (by rw [k17, f4]; omega)) (fun h46 => ?_)
      refine Go_aload d_X_read_49 lg0 ⟨_, rfl⟩ ?_
      refine Go_iload d_X_read_50 lg2 ?_
      refine Go_V1i d_X_read_51 kX (c_X_play e (codK T L e.toNat) (by omega) (by rw [k17a]; exact (f5 e.toNat (by omega)).1) (by rw [k17a]; exact (f5 e.toNat (by omega)).2) (evF_8 hcn) g1) (Nat.le_of_ble_eq_true rfl) ?_
      rintro z S5 ⟨p1, p2, p3, p4⟩
      refine Go_if_eq d_X_read_54 (by omega) (fun h54 => ?_) (fun h54 => ?_)
      · refine Go_iload d_X_read_63 lg2 ?_
        rw [if_neg hst, if_neg (by omega), if_pos (show (evDo N4 (codK T L e.toNat)).1 < 0 by omega)] at g6
        have k17b : S5 17 = S3 17 := by rw [p4 17 (by decide) (by decide) (by decide)]; exact k17a
        refine Go_iretI d_X_read_64 (Or.inr ⟨f3, ?_, ?_, by rw [p3]; exact g2, ?_⟩)
        · rw [← g6]
        · rw [← g6]; exact p2
        · rw [k17b]; exact ⟨t0, t1, fun c c1 c2 c3 c4 => by rw [p4 c c1 c2 c4, g3 c c1 c2 c4]; exact t2 c c1 c2 c3 c4⟩
      · refine Go_iinc d_X_read_57 lg2 rfl sa2 ?_
        refine Go_goto d_X_read_60 ?_
        rw [if_neg hst, if_neg (by omega), if_neg (show ¬ (evDo N4 (codK T L e.toNat)).1 < 0 by omega)] at g6
        rw [if_neg hst, if_neg (by omega)] at g5
        exact ih S5 _ p2 (by rw [p3]; exact g2) (g3.tr p4) (by rw [hpos]; omega) (by rw [hpos]; exact g5) (by rw [hpos]; exact g6)
end XTape
