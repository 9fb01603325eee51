section Stat
variable {G : GT} {q : MKT} {pc n : Nat} {lv : List (Option Value)} {st : List Value} {S : St} {Post : Option Value → St → Prop}
def sV (G : GT) (k : Nat) : Value := .ref (G.2.2.2.2.2.1 k)
def Dg0 (q : MKT) (pc n : Nat) : Prop := ∃ idx : Nat, decode q.2.2.1 pc = .ok (.getstatic idx, 3) ∧ pc + 3 = n ∧ Cond.fieldLink q.1 idx "MixRounds" "LEAST" "[I" ∈ tb
theorem Go_gets0 (d : Dg0 q pc n) (k : Go G q n lv (sV G 0 :: st) S Post) : Go G q pc lv st S Post := by
  intro p e R s m args below meth c cells slots Q H locs ls X hc hs K hl hP hS
  obtain ⟨idx, d, rfl, hk⟩ := d
  exact va_gets X.1 X.2.1 X.2.2.2.2.2.1.2.2.1.1.1 hS X.2.2.2.1 (X.2.2.2.2.1 _ hk) (fun _ h => h) d (k p e R s m args below meth c cells slots Q H locs ls X hc hs K hl hP hS)
theorem Go_sti0 {i : Int} (d : Dk q pc .iaload 1 n) (hi : 0 ≤ i ∧ i < 4) (k : Go G q n lv (vI (leastJ i.toNat) :: st) S Post) : Go G q pc lv (vI i :: sV G 0 :: st) S Post := by
  intro p e R s m args below meth c cells slots Q H locs ls X hc hs K hl hP hS
  obtain ⟨d, rfl⟩ := d
  exact va_ti X.1 X.2.1 X.2.2.2.2.2.1.2.2.1.1.2 hS (iI_in (n := 4) (by omega) (by decide)) (v := vI (leastJ i.toNat)) (by rw [iI_cl (by omega)]) d (k p e R s m args below meth c cells slots Q H locs ls X hc hs K hl hP hS)
def Dg1 (q : MKT) (pc n : Nat) : Prop := ∃ idx : Nat, decode q.2.2.1 pc = .ok (.getstatic idx, 3) ∧ pc + 3 = n ∧ Cond.fieldLink q.1 idx "MixRounds" "MOST" "[I" ∈ tb
theorem Go_gets1 (d : Dg1 q pc n) (k : Go G q n lv (sV G 1 :: st) S Post) : Go G q pc lv st S Post := by
  intro p e R s m args below meth c cells slots Q H locs ls X hc hs K hl hP hS
  obtain ⟨idx, d, rfl, hk⟩ := d
  exact va_gets X.1 X.2.1 X.2.2.2.2.2.1.2.2.1.2.1 hS X.2.2.2.1 (X.2.2.2.2.1 _ hk) (fun _ h => h) d (k p e R s m args below meth c cells slots Q H locs ls X hc hs K hl hP hS)
theorem Go_sti1 {i : Int} (d : Dk q pc .iaload 1 n) (hi : 0 ≤ i ∧ i < 4) (k : Go G q n lv (vI (mostJ i.toNat) :: st) S Post) : Go G q pc lv (vI i :: sV G 1 :: st) S Post := by
  intro p e R s m args below meth c cells slots Q H locs ls X hc hs K hl hP hS
  obtain ⟨d, rfl⟩ := d
  exact va_ti X.1 X.2.1 X.2.2.2.2.2.1.2.2.1.2.2 hS (iI_in (n := 4) (by omega) (by decide)) (v := vI (mostJ i.toNat)) (by rw [iI_cl (by omega)]) d (k p e R s m args below meth c cells slots Q H locs ls X hc hs K hl hP hS)
end Stat
theorem d_X_tell_10 : Dg0 k_X_tell 10 13 := ⟨70, (by decide +kernel), rfl, tb_at 288 (by decide +kernel) (by decide +kernel)⟩
theorem d_X_tell_15 : Dg1 k_X_tell 15 18 := ⟨74, (by decide +kernel), rfl, tb_at 290 (by decide +kernel) (by decide +kernel)⟩
section XRead
variable {G : GT} {S : St} {N : Row}
theorem c_X_isPart (v : Int) (hv : -2147483648 ≤ v ∧ v < 2147483648) : Fn G k_X_isPart [vI v] S (PV (vI (bI (v = 0 ∨ v = 1))) S) := by
  refine Fn.of [some (vI v)] 0 rfl (by decide +kernel) rfl (Nat.le_of_ble_eq_true rfl) (by decide) ?_
  refine Go_iload d_X_isPart_0 lg0 ?_
  refine Go_if_eq d_X_isPart_1 (by omega) (fun h1 => ?_) (fun h1 => ?_)
  · refine Go_const d_X_isPart_9 ?_
    refine Go_goto d_X_isPart_10 ?_
    exact Go_zretV d_X_isPart_14 (by first | exact Or.inl rfl | exact Or.inr rfl | exact @bI_01 _ _) (by first | rfl | exact (bI_pos (by omega)).symm | exact (bI_neg (by omega)).symm)
  · refine Go_iload d_X_isPart_4 lg0 ?_
    refine Go_const d_X_isPart_5 ?_
    refine Go_icmp_ne d_X_isPart_6 (by omega) (by omega) (fun h6 => ?_) (fun h6 => ?_)
    · refine Go_const d_X_isPart_13 ?_
      exact Go_zretV d_X_isPart_14 (by first | exact Or.inl rfl | exact Or.inr rfl | exact @bI_01 _ _) (by first | rfl | exact (bI_pos (by omega)).symm | exact (bI_neg (by omega)).symm)
    · refine Go_const d_X_isPart_9 ?_
      refine Go_goto d_X_isPart_10 ?_
      exact Go_zretV d_X_isPart_14 (by first | exact Or.inl rfl | exact Or.inr rfl | exact @bI_01 _ _) (by first | rfl | exact (bI_pos (by omega)).symm | exact (bI_neg (by omega)).symm)
theorem c_X_letter (i v : Int) (hi : -2147483648 ≤ i ∧ i < 2147483648) (hv : -2147483648 ≤ v ∧ v < 2147483648) (hB : BR (S 1) N) (hW : WF N) : Fn G k_X_letter [oR G 0, vI i, vI v] S (PV (vI (if (0 ≤ i ∧ i < N 5) ∧ 0 ≤ v ∧ v ≤ 4 then lf N i v else -1)) S) := by
  have hN := hW.1
  have hc : 1 ≤ 1 ∧ 1 ≤ 14 := by decide
  obtain ⟨a1, ⟨a2, a3, a4, a5⟩, a6, a7, a8, a9⟩ := id hB
  obtain ⟨hr, i0, i1, i2, i3, i4, i5, i6⟩ := id hN
  have hc0 := cnt_0 N (N 5).toNat
  have hc12 := hW.2.1
  have hsw0 : v = 0 ∨ v = 1 ∨ v = 2 ∨ v = 3 ∨ v = 4 ∨ (v < 0 ∨ 4 < v) := by omega
  refine Fn.of [some (oR G 0), some (vI i), some (vI v)] 0 rfl (by decide +kernel) rfl (Nat.le_of_ble_eq_true rfl) (by decide) ?_
  refine Go_aload d_X_letter_0 lg0 ⟨_, rfl⟩ ?_
  refine Go_get d_X_letter_1 fx_0 ?_
  refine Go_iload d_X_letter_4 lg1 ?_
  refine Go_V1p d_X_letter_5 (kB (by first | assumption | decide | omega)) (c_B_hasLetter _ (by omega) (by first | assumption | decide) hB hN) (Nat.le_of_ble_eq_true rfl) ?_
  refine Go_ifne_d d_X_letter_8 (fun h8 => ?_) (fun h8 => ?_)
  · refine Go_iload d_X_letter_13 lg2 ?_
    rcases hsw0 with rfl | rfl | rfl | rfl | rfl | hsw
    · refine Go_tswIn (t := 48) d_X_letter_14 (by decide) (by decide) (by decide) rfl (by decide) ?_
      refine Go_aload d_X_letter_48 lg0 ⟨_, rfl⟩ ?_
      refine Go_get d_X_letter_49 fx_0 ?_
      refine Go_iload d_X_letter_52 lg1 ?_
      refine Go_V1p d_X_letter_53 (kB (by first | assumption | decide | omega)) (c_B_senderOf _ (by omega) (by first | assumption | decide) hB hN) (Nat.le_of_ble_eq_true rfl) ?_
      exact Go_iretV d_X_letter_56 (by rw [if_pos h8, if_pos (by omega)])
    · refine Go_tswIn (t := 57) d_X_letter_14 (by decide) (by decide) (by decide) rfl (by decide) ?_
      refine Go_aload d_X_letter_57 lg0 ⟨_, rfl⟩ ?_
      refine Go_get d_X_letter_58 fx_0 ?_
      refine Go_iload d_X_letter_61 lg1 ?_
      refine Go_V1p d_X_letter_62 (kB (by first | assumption | decide | omega)) (c_B_receiverOf _ (by omega) (by first | assumption | decide) hB hN) (Nat.le_of_ble_eq_true rfl) ?_
      exact Go_iretV d_X_letter_65 (by rw [if_pos h8, if_pos (by omega)])
    · refine Go_tswIn (t := 66) d_X_letter_14 (by decide) (by decide) (by decide) rfl (by decide) ?_
      refine Go_aload d_X_letter_66 lg0 ⟨_, rfl⟩ ?_
      refine Go_get d_X_letter_67 fx_0 ?_
      refine Go_iload d_X_letter_70 lg1 ?_
      refine Go_V1p d_X_letter_71 (kB (by first | assumption | decide | omega)) (c_B_firstOf _ (by omega) (by first | assumption | decide) hB hN) (Nat.le_of_ble_eq_true rfl) ?_
      exact Go_iretV d_X_letter_74 (by rw [if_pos h8, if_pos (by omega)])
    · refine Go_tswIn (t := 75) d_X_letter_14 (by decide) (by decide) (by decide) rfl (by decide) ?_
      refine Go_aload d_X_letter_75 lg0 ⟨_, rfl⟩ ?_
      refine Go_get d_X_letter_76 fx_0 ?_
      refine Go_get d_X_letter_79 (fb_6 (by first | assumption | decide | omega)) ?_
      refine Go_iload d_X_letter_82 lg1 ?_
      refine Go_iald d_X_letter_83 (ab_6 (by first | assumption | decide | omega)) (by omega) ?_
      exact Go_iretV d_X_letter_84 (by rw [if_pos (by omega)]; exact (a6 i h8.1 h8.2).2.2.2.1)
    · refine Go_tswIn (t := 85) d_X_letter_14 (by decide) (by decide) (by decide) rfl (by decide) ?_
      refine Go_aload d_X_letter_85 lg0 ⟨_, rfl⟩ ?_
      refine Go_get d_X_letter_86 fx_0 ?_
      refine Go_get d_X_letter_89 (fb_7 (by first | assumption | decide | omega)) ?_
      refine Go_iload d_X_letter_92 lg1 ?_
      refine Go_iald d_X_letter_93 (ab_7 (by first | assumption | decide | omega)) (by omega) ?_
      exact Go_iretV d_X_letter_94 (by rw [if_pos (by omega)]; exact (a6 i h8.1 h8.2).2.2.2.2)
    · refine Go_tswOut (t := 95) d_X_letter_14 (by omega) hsw (by decide) ?_
      refine Go_const d_X_letter_95 ?_
      exact Go_iretV d_X_letter_96 (by rw [if_neg (by omega)])
  · refine Go_const d_X_letter_11 ?_
    exact Go_iretV d_X_letter_12 (by rw [if_neg (by omega)])
theorem c_X_inside (k : Int) (hk : -2147483648 ≤ k ∧ k < 2147483648) (hB : BR (S 1) N) (hW : WF N) : Fn G k_X_inside [oR G 0, vI k] S (PV (vI (if k < 0 then -1 else sat N k (N 5).toNat)) S) := by
  have hN := hW.1
  have hc : 1 ≤ 1 ∧ 1 ≤ 14 := by decide
  obtain ⟨a1, ⟨a2, a3, a4, a5⟩, a6, a7, a8, a9⟩ := id hB
  obtain ⟨hr, i0, i1, i2, i3, i4, i5, i6⟩ := id hN
  have hc0 := cnt_0 N (N 5).toNat
  have hc12 := hW.2.1
  refine Fn.of [some (oR G 0), some (vI k)] 0 rfl (by decide +kernel) rfl (Nat.le_of_ble_eq_true rfl) (by decide) ?_
  refine Go_iload d_X_inside_0 lg1 ?_
  refine Go_if_ge d_X_inside_1 (by omega) (fun h1 => ?_) (fun h1 => ?_)
  · refine Go_iload d_X_inside_6 lg1 ?_
    refine Go_aload d_X_inside_7 lg0 ⟨_, rfl⟩ ?_
    refine Go_get d_X_inside_8 fx_0 ?_
    refine Go_get d_X_inside_11 (fb_8 (by first | assumption | decide | omega)) ?_
    refine Go_icmp_ge d_X_inside_14 (by omega) (by omega) (fun h14 => ?_) (fun h14 => ?_)
    · refine Go_const d_X_inside_35 ?_
      first
        | (exfalso; omega)
        | exact Go_iretV d_X_inside_37 (by rw [if_pos (by omega)])
        | exact Go_iretV d_X_inside_37 (by rw [if_neg (by omega), sat_none (by omega)])
        | exact Go_iretV d_X_inside_37 (by rw [if_neg (by omega)]; exact a7 k (by omega) (by omega))
    · refine Go_iload d_X_inside_17 lg1 ?_
      refine Go_const d_X_inside_18 ?_
      refine Go_icmp_ge d_X_inside_20 (by omega) (by omega) (fun h20 => ?_) (fun h20 => ?_)
      · refine Go_const d_X_inside_35 ?_
        first
          | (exfalso; omega)
          | exact Go_iretV d_X_inside_37 (by rw [if_pos (by omega)])
          | exact Go_iretV d_X_inside_37 (by rw [if_neg (by omega), sat_none (by omega)])
          | exact Go_iretV d_X_inside_37 (by rw [if_neg (by omega)]; exact a7 k (by omega) (by omega))
      · refine Go_aload d_X_inside_23 lg0 ⟨_, rfl⟩ ?_
        refine Go_get d_X_inside_24 fx_0 ?_
        refine Go_get d_X_inside_27 (fb_9 (by first | assumption | decide | omega)) ?_
        refine Go_iload d_X_inside_30 lg1 ?_
        refine Go_iald d_X_inside_31 (ab_9 (by first | assumption | decide | omega)) (by omega) ?_
        refine Go_goto d_X_inside_32 ?_
        first
          | (exfalso; omega)
          | exact Go_iretV d_X_inside_37 (by rw [if_pos (by omega)])
          | exact Go_iretV d_X_inside_37 (by rw [if_neg (by omega), sat_none (by omega)])
          | exact Go_iretV d_X_inside_37 (by rw [if_neg (by omega)]; exact a7 k (by omega) (by omega))
  · refine Go_const d_X_inside_4 ?_
    first
      | (exfalso; omega)
      | exact Go_iretV d_X_inside_5 (by rw [if_pos (by omega)])
      | exact Go_iretV d_X_inside_5 (by rw [if_neg (by omega), sat_none (by omega)])
      | exact Go_iretV d_X_inside_5 (by rw [if_neg (by omega)]; exact a7 k (by omega) (by omega))
theorem c_X_round (r v : Int) (hr0 : -2147483648 ≤ r ∧ r < 2147483648) (hv : -2147483648 ≤ v ∧ v < 2147483648) (hB : BR (S 1) N) (hW : WF N) : Fn G k_X_round [oR G 0, vI r, vI v] S (PV (vI (if (0 ≤ r ∧ r < N 6) ∧ 0 ≤ v ∧ v ≤ 5 then rof N r v (N 5).toNat else -1)) S) := by
  have hN := hW.1
  have hc : 1 ≤ 1 ∧ 1 ≤ 14 := by decide
  obtain ⟨a1, ⟨a2, a3, a4, a5⟩, a6, a7, a8, a9⟩ := id hB
  obtain ⟨hr, i0, i1, i2, i3, i4, i5, i6⟩ := id hN
  have hc0 := cnt_0 N (N 5).toNat
  have hc12 := hW.2.1
  refine Fn.of [some (oR G 0), some (vI r), some (vI v)] 0 rfl (by decide +kernel) rfl (Nat.le_of_ble_eq_true rfl) (by decide) ?_
  refine Go_aload d_X_round_0 lg0 ⟨_, rfl⟩ ?_
  refine Go_get d_X_round_1 fx_0 ?_
  refine Go_iload d_X_round_4 lg1 ?_
  refine Go_V1p d_X_round_5 (kB (by first | assumption | decide | omega)) (c_B_hasRound _ (by omega) (by first | assumption | decide) hB hN) (Nat.le_of_ble_eq_true rfl) ?_
  refine Go_ifeq_d d_X_round_8 (fun h8 => ?_) (fun h8 => ?_)
  · refine Go_const d_X_round_20 ?_
    exact Go_iretV d_X_round_21 (by rw [if_neg (by omega)])
  · refine Go_iload d_X_round_11 lg2 ?_
    refine Go_const d_X_round_12 ?_
    refine Go_const d_X_round_13 ?_
    refine Go_S3p d_X_round_14 (c_X_within _ _ _ (by omega) (by omega) (by omega)) (Nat.le_of_ble_eq_true rfl) ?_
    refine Go_ifne_d d_X_round_17 (fun h17 => ?_) (fun h17 => ?_)
    · refine Go_aload d_X_round_22 lg0 ⟨_, rfl⟩ ?_
      refine Go_get d_X_round_23 fx_0 ?_
      refine Go_iload d_X_round_26 lg1 ?_
      refine Go_iload d_X_round_27 lg2 ?_
      refine Go_V2p d_X_round_28 (kB (by first | assumption | decide | omega)) (c_B_fact _ _ (by omega) (by omega) (by first | assumption | decide) hB hN) (Nat.le_of_ble_eq_true rfl) ?_
      exact Go_iretV d_X_round_31 (by rw [if_pos (by omega), if_pos (by omega)])
    · refine Go_const d_X_round_20 ?_
      exact Go_iretV d_X_round_21 (by rw [if_neg (by omega)])
theorem c_X_out (r k v : Int) (hr0 : -2147483648 ≤ r ∧ r < 2147483648) (hk : -2147483648 ≤ k ∧ k < 2147483648) (hv : -2147483648 ≤ v ∧ v < 2147483648) (hB : BR (S 1) N) (hW : WF N) : Fn G k_X_out [oR G 0, vI r, vI k, vI v] S (PV (vI (outV N r k v)) S) := by
  have hN := hW.1
  have hc : 1 ≤ 1 ∧ 1 ≤ 14 := by decide
  obtain ⟨a1, ⟨a2, a3, a4, a5⟩, a6, a7, a8, a9⟩ := id hB
  obtain ⟨hr, i0, i1, i2, i3, i4, i5, i6⟩ := id hN
  have hc0 := cnt_0 N (N 5).toNat
  have hc12 := hW.2.1
  have hro := rof_0 N r 1 (N 5).toNat
  have hlo := lout_rg N r k (N 5).toNat
  have hsw0 : v = 0 ∨ v = 1 ∨ v = 2 ∨ v = 3 ∨ (v < 0 ∨ 3 < v) := by omega
  have hwh := whV_rg (WN_of hW)
  refine Fn.of [some (oR G 0), some (vI r), some (vI k), some (vI v)] 0 rfl (by decide +kernel) rfl (Nat.le_of_ble_eq_true rfl) (by decide) ?_
  refine Go_aload d_X_out_0 lg0 ⟨_, rfl⟩ ?_
  refine Go_get d_X_out_1 fx_0 ?_
  refine Go_iload d_X_out_4 lg1 ?_
  refine Go_iload d_X_out_5 lg2 ?_
  refine Go_V2p d_X_out_6 (kB (by first | assumption | decide | omega)) (c_B_hasOut _ _ (by omega) (by omega) (by first | assumption | decide) hB hN) (Nat.le_of_ble_eq_true rfl) ?_
  refine Go_ifne_d d_X_out_9 (fun h9 => ?_) (fun h9 => ?_)
  · have hl0 := (a9 r k h9.1.1 h9.1.2 h9.2.1 h9.2.2).2.1
    have hg3 : lf N (lout N r k (N 5).toNat) 3 = r := by omega
    have hgr : 0 ≤ lout N r k (N 5).toNat ∧ lout N r k (N 5).toNat < N 5 := by omega
    refine Go_iload d_X_out_14 lg3 ?_
    rcases hsw0 with rfl | rfl | rfl | rfl | hsw
    · refine Go_tswIn (t := 44) d_X_out_15 (by decide) (by decide) (by decide) rfl (by decide) ?_
      refine Go_aload d_X_out_44 lg0 ⟨_, rfl⟩ ?_
      refine Go_get d_X_out_45 fx_0 ?_
      refine Go_iload d_X_out_48 lg1 ?_
      refine Go_iload d_X_out_49 lg2 ?_
      refine Go_V2p d_X_out_50 (kB (by first | assumption | decide | omega)) (c_B_outLetter _ _ (by omega) (by omega) (by first | assumption | decide) hB hN) (Nat.le_of_ble_eq_true rfl) ?_
      exact Go_iretV d_X_out_53 (by unfold outV; rw [if_pos h9, if_pos (by omega), if_pos rfl])
    · refine Go_tswIn (t := 54) d_X_out_15 (by decide) (by decide) (by decide) rfl (by decide) ?_
      refine Go_aload d_X_out_54 lg0 ⟨_, rfl⟩ ?_
      refine Go_get d_X_out_55 fx_0 ?_
      refine Go_aload d_X_out_58 lg0 ⟨_, rfl⟩ ?_
      refine Go_get d_X_out_59 fx_0 ?_
      refine Go_iload d_X_out_62 lg1 ?_
      refine Go_iload d_X_out_63 lg2 ?_
      refine Go_V2p d_X_out_64 (kB (by first | assumption | decide | omega)) (c_B_outLetter _ _ (by omega) (by omega) (by first | assumption | decide) hB hN) (Nat.le_of_ble_eq_true rfl) ?_
      refine Go_V1p d_X_out_67 (kB (by first | assumption | decide | omega)) (c_B_receiverOf _ (by rw [if_pos h9]; omega) hc hB hN) (Nat.le_of_ble_eq_true rfl) ?_
      exact Go_iretV d_X_out_70 (by unfold outV; rw [if_pos h9, if_pos hgr, if_pos (by omega), if_neg (by decide), if_pos rfl])
    · refine Go_tswIn (t := 71) d_X_out_15 (by decide) (by decide) (by decide) rfl (by decide) ?_
      refine Go_aload d_X_out_71 lg0 ⟨_, rfl⟩ ?_
      refine Go_get d_X_out_72 fx_0 ?_
      refine Go_iload d_X_out_75 lg1 ?_
      refine Go_iload d_X_out_76 lg2 ?_
      refine Go_S3p d_X_out_77 (c_W_possible _ _ (by omega) (by first | assumption | decide) hB hW) (Nat.le_of_ble_eq_true rfl) ?_
      exact Go_iretV d_X_out_80 (by
        have e : outV N r k 2 = nmV N (mM N) (mJ N) (whV N) (lout N r k (N 5).toNat) r (N 5).toNat := by unfold outV; rw [if_pos (by omega), if_neg (by decide), if_neg (by decide), if_pos rfl]
        rw [e]
        by_cases h99 : lf N (lout N r k (N 5).toNat) 0 = 9
        · rw [if_pos h99, nm_own hgr.1 h99 (by omega), if_pos (by omega)]
        · obtain ⟨l0, l1, l2, l3, l4⟩ := hW.2.2.1 _ hgr.1 hgr.2
          have hp := mM_pos hW (q := r.toNat) hgr.1 hgr.2 h99 (by unfold wasP; omega)
          rw [if_neg h99, nm_w hW h9.1 h99 (by omega) _ (by omega)])
    · refine Go_tswIn (t := 81) d_X_out_15 (by decide) (by decide) (by decide) rfl (by decide) ?_
      refine Go_aload d_X_out_81 lg0 ⟨_, rfl⟩ ?_
      refine Go_get d_X_out_82 fx_0 ?_
      refine Go_iload d_X_out_85 lg1 ?_
      refine Go_iload d_X_out_86 lg2 ?_
      refine Go_S3p d_X_out_87 (c_W_likeliest _ _ (by omega) (by first | assumption | decide) hB hW) (Nat.le_of_ble_eq_true rfl) ?_
      exact Go_iretV d_X_out_90 (by
        have e : outV N r k 3 = (mxV N (mM N) (mJ N) (whV N) (lout N r k (N 5).toNat) r (N 5).toNat).1 := by unfold outV; rw [if_pos (by omega), if_neg (by decide), if_neg (by decide), if_neg (by decide)]
        rw [e]
        by_cases h99 : lf N (lout N r k (N 5).toNat) 0 = 9
        · rw [if_pos h99, (mx_own hgr.1 h99 (by omega) (N 5).toNat).1 (by omega)]
        · obtain ⟨l0, l1, l2, l3, l4⟩ := hW.2.2.1 _ hgr.1 hgr.2
          have hp := mM_pos hW (q := r.toNat) hgr.1 hgr.2 h99 (by unfold wasP; omega)
          obtain ⟨m0, m1, m2, m3⟩ := mx_w hW (g := lout N r k (N 5).toNat) (g0 := lout N r k (N 5).toNat) h9.1 h99 (by omega) (N 5).toNat (by omega)
          have hwp := wt_pos hW hgr hg3 h9.1.1 h99
          have := m3 _ hgr.1 (by omega)
          rw [if_neg h99, (m1 (by omega)).1])
    · refine Go_tswOut (t := 91) d_X_out_15 (by omega) hsw (by decide) ?_
      refine Go_const d_X_out_91 ?_
      exact Go_iretV d_X_out_92 (by unfold outV; rw [if_neg (by omega)])
  · refine Go_const d_X_out_12 ?_
    exact Go_iretV d_X_out_13 (by unfold outV; rw [if_neg]; rintro ⟨z1, z2, z3, -⟩; exact h9 ⟨z1, z3, (lout_has hW z1 z2).2⟩)
theorem c_X_count (v : Int) (hv : -2147483648 ≤ v ∧ v < 2147483648) (hB : BR (S 1) N) (hW : WF N) : Fn G k_X_count [oR G 0, vI v] S (PV (vI (if 0 ≤ v ∧ v ≤ 3 then N v.toNat else if v = 4 then cnt N (N 5).toNat else if v = 5 then N 5 else if v = 6 then N 6 else if v = 7 then S 15 2 0 else -1)) S) := by
  have hN := hW.1
  have hc : 1 ≤ 1 ∧ 1 ≤ 14 := by decide
  obtain ⟨a1, ⟨a2, a3, a4, a5⟩, a6, a7, a8, a9⟩ := id hB
  obtain ⟨hr, i0, i1, i2, i3, i4, i5, i6⟩ := id hN
  have hc0 := cnt_0 N (N 5).toNat
  have hc12 := hW.2.1
  have hsw0 : v = 4 ∨ v = 5 ∨ v = 6 ∨ v = 7 ∨ (v < 4 ∨ 7 < v) := by omega
  refine Fn.of [some (oR G 0), some (vI v)] 0 rfl (by decide +kernel) rfl (Nat.le_of_ble_eq_true rfl) (by decide) ?_
  refine Go_iload d_X_count_0 lg1 ?_
  refine Go_const d_X_count_1 ?_
  refine Go_const d_X_count_2 ?_
  refine Go_S3p d_X_count_3 (c_X_within _ _ _ (by omega) (by omega) (by omega)) (Nat.le_of_ble_eq_true rfl) ?_
  refine Go_ifeq_d d_X_count_6 (fun h6 => ?_) (fun h6 => ?_)
  · refine Go_iload d_X_count_19 lg1 ?_
    rcases hsw0 with rfl | rfl | rfl | rfl | hsw
    · refine Go_tswIn (t := 52) d_X_count_20 (by decide) (by decide) (by decide) rfl (by decide) ?_
      refine Go_aload d_X_count_52 lg0 ⟨_, rfl⟩ ?_
      refine Go_get d_X_count_53 fx_0 ?_
      refine Go_get d_X_count_56 (fb_8 (by first | assumption | decide | omega)) ?_
      exact Go_iretV d_X_count_59 (by rw [if_neg (by decide), if_pos rfl]; exact a4)
    · refine Go_tswIn (t := 60) d_X_count_20 (by decide) (by decide) (by decide) rfl (by decide) ?_
      refine Go_aload d_X_count_60 lg0 ⟨_, rfl⟩ ?_
      refine Go_get d_X_count_61 fx_0 ?_
      refine Go_get d_X_count_64 (fb_2 (by first | assumption | decide | omega)) ?_
      exact Go_iretV d_X_count_67 (by rw [if_neg (by decide), if_neg (by decide), if_pos rfl]; exact a3)
    · refine Go_tswIn (t := 68) d_X_count_20 (by decide) (by decide) (by decide) rfl (by decide) ?_
      refine Go_aload d_X_count_68 lg0 ⟨_, rfl⟩ ?_
      refine Go_get d_X_count_69 fx_0 ?_
      refine Go_get d_X_count_72 (fb_10 (by first | assumption | decide | omega)) ?_
      exact Go_iretV d_X_count_75 (by rw [if_neg (by decide), if_neg (by decide), if_neg (by decide), if_pos rfl]; exact a5)
    · refine Go_tswIn (t := 76) d_X_count_20 (by decide) (by decide) (by decide) rfl (by decide) ?_
      refine Go_aload d_X_count_76 lg0 ⟨_, rfl⟩ ?_
      refine Go_get d_X_count_77 fx_1 ?_
      refine Go_get d_X_count_80 (fp_2 (by first | assumption | decide | omega)) ?_
      exact Go_iretV d_X_count_83 (by rw [if_neg (by decide), if_neg (by decide), if_neg (by decide), if_neg (by decide), if_pos rfl])
    · refine Go_tswOut (t := 84) d_X_count_20 (by omega) hsw (by decide) ?_
      refine Go_const d_X_count_84 ?_
      exact Go_iretV d_X_count_85 (by rw [if_neg h6, if_neg (by omega), if_neg (by omega), if_neg (by omega), if_neg (by omega)])
  · refine Go_aload d_X_count_9 lg0 ⟨_, rfl⟩ ?_
    refine Go_get d_X_count_10 fx_0 ?_
    refine Go_get d_X_count_13 (fb_0 (by first | assumption | decide | omega)) ?_
    refine Go_iload d_X_count_16 lg1 ?_
    refine Go_iald d_X_count_17 (ab_0 (by first | assumption | decide | omega)) (by omega) ?_
    exact Go_iretV d_X_count_18 (by rw [if_pos h6]; exact a1 _ (by omega))
theorem c_X_chance (r k i v : Int) (hr0 : -2147483648 ≤ r ∧ r < 2147483648) (hk : -2147483648 ≤ k ∧ k < 2147483648) (hi : -2147483648 ≤ i ∧ i < 2147483648) (hv : -2147483648 ≤ v ∧ v < 2147483648) (hB : BR (S 1) N) (hW : WF N) : Fn G k_X_chance [oR G 0, vI r, vI k, vI i, vI v] S (PV (vL (chanceV N r k i v)) S) := by
  have hN := hW.1
  have hc : 1 ≤ 1 ∧ 1 ≤ 14 := by decide
  obtain ⟨a1, ⟨a2, a3, a4, a5⟩, a6, a7, a8, a9⟩ := id hB
  obtain ⟨hr, i0, i1, i2, i3, i4, i5, i6⟩ := id hN
  have hc0 := cnt_0 N (N 5).toNat
  have hc12 := hW.2.1
  have hro := rof_0 N r 1 (N 5).toNat
  have hlo := lout_rg N r k (N 5).toNat
  have hwh := whV_rg (WN_of hW)
  refine Fn.of [some (oR G 0), some (vI r), some (vI k), some (vI i), some (vI v)] 0 rfl (by decide +kernel) rfl (Nat.le_of_ble_eq_true rfl) (by decide) ?_
  refine Go_aload d_X_chance_0 lg0 ⟨_, rfl⟩ ?_
  refine Go_get d_X_chance_1 fx_0 ?_
  refine Go_iload d_X_chance_4 lg1 ?_
  refine Go_iload d_X_chance_5 lg2 ?_
  refine Go_V2p d_X_chance_6 (kB (by first | assumption | decide | omega)) (c_B_hasOut _ _ (by omega) (by omega) (by first | assumption | decide) hB hN) (Nat.le_of_ble_eq_true rfl) ?_
  refine Go_ifeq_d d_X_chance_9 (fun h9 => ?_) (fun h9 => ?_)
  · refine Go_lconst d_X_chance_31 ?_
    exact Go_lretV d_X_chance_34 (by
      unfold chanceV
      rw [if_neg]
      rintro ⟨z1, z2, z3, z4, z5⟩
      have := lout_has hW z1 z3
      omega)
  · refine Go_aload d_X_chance_12 lg0 ⟨_, rfl⟩ ?_
    refine Go_get d_X_chance_13 fx_0 ?_
    refine Go_iload d_X_chance_16 lg3 ?_
    refine Go_V1p d_X_chance_17 (kB (by first | assumption | decide | omega)) (c_B_hasLetter _ (by omega) (by first | assumption | decide) hB hN) (Nat.le_of_ble_eq_true rfl) ?_
    refine Go_ifeq_d d_X_chance_20 (fun h20 => ?_) (fun h20 => ?_)
    · refine Go_lconst d_X_chance_31 ?_
      exact Go_lretV d_X_chance_34 (by
        unfold chanceV
        rw [if_neg]
        rintro ⟨z1, z2, z3, z4, z5⟩
        have := lout_has hW z1 z3
        omega)
    · refine Go_iload d_X_chance_23 lg4 ?_
      refine Go_S1p d_X_chance_25 (c_X_isPart _ (by omega)) (Nat.le_of_ble_eq_true rfl) ?_
      refine Go_ifne_d d_X_chance_28 (fun h28 => ?_) (fun h28 => ?_)
      · have hg3 : lf N (lout N r k (N 5).toNat) 3 = r := by have := (a9 r k h9.1.1 h9.1.2 h9.2.1 h9.2.2).2.1; omega
        have hgr : 0 ≤ lout N r k (N 5).toNat ∧ lout N r k (N 5).toNat < N 5 := by have := (a9 r k h9.1.1 h9.1.2 h9.2.1 h9.2.2).2.1; omega
        refine Go_aload d_X_chance_35 lg0 ⟨_, rfl⟩ ?_
        refine Go_get d_X_chance_36 fx_0 ?_
        refine Go_iload d_X_chance_39 lg1 ?_
        refine Go_iload d_X_chance_40 lg2 ?_
        refine Go_V2p d_X_chance_41 (kB (by first | assumption | decide | omega)) (c_B_isOwnOut _ _ (by omega) (by omega) (by first | assumption | decide) hB hN) (Nat.le_of_ble_eq_true rfl) ?_
        refine Go_ifeq_d d_X_chance_44 (fun h44 => ?_) (fun h44 => ?_)
        · have hp : 0 < mM N r.toNat := by
            obtain ⟨l0, l1, l2, l3, l4⟩ := hW.2.2.1 _ hgr.1 hgr.2
            have := mM_pos hW (q := r.toNat) hgr.1 hgr.2 (fun q => h44 ⟨h9, q⟩) (by unfold wasP; omega)
            omega
          have hwr := prS_b hW (f := 0) (k := (r + 1).toNat) (by omega)
          have hwp := prS_pos (mM N) 0 (r + 1).toNat
          have hwn := wtV_nn hW i r
          have hwl := wtV_le hW (i := i) (r := r) (hW.2.2.1 i h20.1 h20.2).2.2.1.1 (by omega)
          refine Go_aload d_X_chance_72 lg0 ⟨_, rfl⟩ ?_
          refine Go_get d_X_chance_73 fx_0 ?_
          refine Go_iload d_X_chance_76 lg3 ?_
          refine Go_iload d_X_chance_77 lg1 ?_
          refine Go_S3p d_X_chance_78 (c_W_weight _ _ (by omega) (by omega) (by first | assumption | decide) hB hW) (Nat.le_of_ble_eq_true rfl) ?_
          refine Go_aload d_X_chance_81 lg0 ⟨_, rfl⟩ ?_
          refine Go_get d_X_chance_82 fx_0 ?_
          refine Go_const d_X_chance_85 ?_
          refine Go_iload d_X_chance_86 lg1 ?_
          refine Go_const d_X_chance_87 ?_
          refine Go_iadd d_X_chance_88 ?_
          refine Go_S3p d_X_chance_89 (c_W_whole _ _ (by omega) (by omega) (by first | assumption | decide) hB hW) (Nat.le_of_ble_eq_true rfl) ?_
          rw [show (r + 1 - 0).toNat = (r + 1).toNat by omega, show (0 : Int).toNat = 0 from rfl]
          refine Go_iload d_X_chance_92 lg4 ?_
          refine Go_S3p d_X_chance_94 (c_X_lowest _ _ _ (by omega) (by omega) (by omega)) (Nat.le_of_ble_eq_true rfl) ?_
          exact Go_lretV d_X_chance_97 (by
            unfold chanceV
            rw [if_pos (by omega), chV_w hW h9.1 h20 (fun q => h44 ⟨h9, q⟩) hp, whV_Q h9.1, frV_mul (wtV_nn hW i r) (Wr_pos r) (Qr_pos r)]
            rfl)
        · refine Go_aload d_X_chance_47 lg0 ⟨_, rfl⟩ ?_
          refine Go_get d_X_chance_48 fx_0 ?_
          refine Go_iload d_X_chance_51 lg1 ?_
          refine Go_iload d_X_chance_52 lg2 ?_
          refine Go_V2p d_X_chance_53 (kB (by first | assumption | decide | omega)) (c_B_outLetter _ _ (by omega) (by omega) (by first | assumption | decide) hB hN) (Nat.le_of_ble_eq_true rfl) ?_
          rw [if_pos h9]
          refine Go_iload d_X_chance_56 lg3 ?_
          refine Go_icmp_ne d_X_chance_57 (by omega) (by omega) (fun h57 => ?_) (fun h57 => ?_)
          · refine Go_lconst d_X_chance_64 ?_
            refine Go_lconst d_X_chance_65 ?_
            refine Go_iload d_X_chance_66 lg4 ?_
            refine Go_S3p d_X_chance_68 (c_X_lowest _ _ _ (by omega) (by omega) (by omega)) (Nat.le_of_ble_eq_true rfl) ?_
            exact Go_lretV d_X_chance_71 (by
              unfold chanceV
              rw [if_pos (by omega)]
              have e : chV N (mM N) (mJ N) (whV N) (lout N r k (N 5).toNat) r i = if i = lout N r k (N 5).toNat then whV N else 0 := by unfold chV; rw [if_pos h44.2]
              rw [e, chance_own (by omega)]
              first | rw [if_pos (by assumption)] | rw [if_neg (by assumption)])
          · refine Go_lconst d_X_chance_60 ?_
            refine Go_goto d_X_chance_61 ?_
            refine Go_lconst d_X_chance_65 ?_
            refine Go_iload d_X_chance_66 lg4 ?_
            refine Go_S3p d_X_chance_68 (c_X_lowest _ _ _ (by omega) (by omega) (by omega)) (Nat.le_of_ble_eq_true rfl) ?_
            exact Go_lretV d_X_chance_71 (by
              unfold chanceV
              rw [if_pos (by omega)]
              have e : chV N (mM N) (mJ N) (whV N) (lout N r k (N 5).toNat) r i = if i = lout N r k (N 5).toNat then whV N else 0 := by unfold chV; rw [if_pos h44.2]
              rw [e, chance_own (by omega)]
              first | rw [if_pos (by assumption)] | rw [if_neg (by assumption)])
      · refine Go_lconst d_X_chance_31 ?_
        exact Go_lretV d_X_chance_34 (by
          unfold chanceV
          rw [if_neg]
          rintro ⟨z1, z2, z3, z4, z5⟩
          have := lout_has hW z1 z3
          omega)
theorem c_X_sender (r k u v : Int) (hr0 : -2147483648 ≤ r ∧ r < 2147483648) (hk : -2147483648 ≤ k ∧ k < 2147483648) (hu : -2147483648 ≤ u ∧ u < 2147483648) (hv : -2147483648 ≤ v ∧ v < 2147483648) (hB : BR (S 1) N) (hW : WF N) : Fn G k_X_sender [oR G 0, vI r, vI k, vI u, vI v] S (PV (vL (senderV N r k u v)) S) := by
  have hN := hW.1
  have hc : 1 ≤ 1 ∧ 1 ≤ 14 := by decide
  obtain ⟨a1, ⟨a2, a3, a4, a5⟩, a6, a7, a8, a9⟩ := id hB
  obtain ⟨hr, i0, i1, i2, i3, i4, i5, i6⟩ := id hN
  have hc0 := cnt_0 N (N 5).toNat
  have hc12 := hW.2.1
  have hro := rof_0 N r 1 (N 5).toNat
  have hlo := lout_rg N r k (N 5).toNat
  have hwh := whV_rg (WN_of hW)
  have hhl : (0 ≤ r ∧ r < N 6) → 0 < mM N r.toNat → (lf N (lout N r k (N 5).toNat) 0 ≠ 9) → heldV N u r.toNat < 9223372036854775808 := by
    intro z1 z2 z3
    have h1 := seV_w hW (u := u) z1 z3 z2
    have h2 := seV_rg (WN_of hW).1 (w := whV N) (g := lout N r k (N 5).toNat) (r := r) (u := u) (by omega) z1 (N 5).toNat (by omega)
    have h3 : (((N 5).toNat : Nat) : Int) * whV N ≤ 79 * whV N := Int.mul_le_mul_of_nonneg_right (by omega) (by omega)
    have h4 := held_nn hW u r.toNat
    have h5 : heldV N u r.toNat * 1 ≤ heldV N u r.toNat * Qr N r := Int.mul_le_mul_of_nonneg_left (by have := Qr_pos (N := N) r; omega) h4
    omega
  refine Fn.of [some (oR G 0), some (vI r), some (vI k), some (vI u), some (vI v)] 0 rfl (by decide +kernel) rfl (Nat.le_of_ble_eq_true rfl) (by decide) ?_
  refine Go_aload d_X_sender_0 lg0 ⟨_, rfl⟩ ?_
  refine Go_get d_X_sender_1 fx_0 ?_
  refine Go_iload d_X_sender_4 lg1 ?_
  refine Go_iload d_X_sender_5 lg2 ?_
  refine Go_V2p d_X_sender_6 (kB (by first | assumption | decide | omega)) (c_B_hasOut _ _ (by omega) (by omega) (by first | assumption | decide) hB hN) (Nat.le_of_ble_eq_true rfl) ?_
  refine Go_ifeq_d d_X_sender_9 (fun h9 => ?_) (fun h9 => ?_)
  · refine Go_lconst d_X_sender_30 ?_
    exact Go_lretV d_X_sender_33 (by
      unfold senderV
      rw [if_neg]
      rintro ⟨z1, z2, z3, z4, z5⟩
      have := lout_has hW z1 z3
      omega)
  · refine Go_iload d_X_sender_12 lg3 ?_
    refine Go_const d_X_sender_13 ?_
    refine Go_const d_X_sender_14 ?_
    refine Go_S3p d_X_sender_16 (c_X_within _ _ _ (by omega) (by omega) (by omega)) (Nat.le_of_ble_eq_true rfl) ?_
    refine Go_ifeq_d d_X_sender_19 (fun h19 => ?_) (fun h19 => ?_)
    · refine Go_lconst d_X_sender_30 ?_
      exact Go_lretV d_X_sender_33 (by
        unfold senderV
        rw [if_neg]
        rintro ⟨z1, z2, z3, z4, z5⟩
        have := lout_has hW z1 z3
        omega)
    · refine Go_iload d_X_sender_22 lg4 ?_
      refine Go_S1p d_X_sender_24 (c_X_isPart _ (by omega)) (Nat.le_of_ble_eq_true rfl) ?_
      refine Go_ifne_d d_X_sender_27 (fun h27 => ?_) (fun h27 => ?_)
      · have hg3 : lf N (lout N r k (N 5).toNat) 3 = r := by have := (a9 r k h9.1.1 h9.1.2 h9.2.1 h9.2.2).2.1; omega
        have hgr : 0 ≤ lout N r k (N 5).toNat ∧ lout N r k (N 5).toNat < N 5 := by have := (a9 r k h9.1.1 h9.1.2 h9.2.1 h9.2.2).2.1; omega
        refine Go_aload d_X_sender_34 lg0 ⟨_, rfl⟩ ?_
        refine Go_get d_X_sender_35 fx_0 ?_
        refine Go_iload d_X_sender_38 lg1 ?_
        refine Go_iload d_X_sender_39 lg2 ?_
        refine Go_V2p d_X_sender_40 (kB (by first | assumption | decide | omega)) (c_B_isOwnOut _ _ (by omega) (by omega) (by first | assumption | decide) hB hN) (Nat.le_of_ble_eq_true rfl) ?_
        refine Go_ifeq_d d_X_sender_43 (fun h43 => ?_) (fun h43 => ?_)
        · have hp : 0 < mM N r.toNat := by
            obtain ⟨l0, l1, l2, l3, l4⟩ := hW.2.2.1 _ hgr.1 hgr.2
            have := mM_pos hW (q := r.toNat) hgr.1 hgr.2 (fun q => h43 ⟨h9, q⟩) (by unfold wasP; omega)
            omega
          have hwr := prS_b hW (f := 0) (k := (r + 1).toNat) (by omega)
          have hwp := prS_pos (mM N) 0 (r + 1).toNat
          have hhn := held_nn hW u r.toNat
          have hhl2 := hhl h9.1 hp (fun q => h43 ⟨h9, q⟩)
          refine Go_aload d_X_sender_64 lg0 ⟨_, rfl⟩ ?_
          refine Go_get d_X_sender_65 fx_0 ?_
          refine Go_iload d_X_sender_68 lg3 ?_
          refine Go_iload d_X_sender_69 lg1 ?_
          refine Go_S3p d_X_sender_70 (c_W_senderWeight _ _ (by omega) (by omega) (by first | assumption | decide) hB hW) (Nat.le_of_ble_eq_true rfl) ?_
          refine Go_aload d_X_sender_73 lg0 ⟨_, rfl⟩ ?_
          refine Go_get d_X_sender_74 fx_0 ?_
          refine Go_const d_X_sender_77 ?_
          refine Go_iload d_X_sender_78 lg1 ?_
          refine Go_const d_X_sender_79 ?_
          refine Go_iadd d_X_sender_80 ?_
          refine Go_S3p d_X_sender_81 (c_W_whole _ _ (by omega) (by omega) (by first | assumption | decide) hB hW) (Nat.le_of_ble_eq_true rfl) ?_
          rw [show (r + 1 - 0).toNat = (r + 1).toNat by omega, show (0 : Int).toNat = 0 from rfl]
          refine Go_iload d_X_sender_84 lg4 ?_
          refine Go_S3p d_X_sender_86 (c_X_lowest _ _ _ (by omega) (by omega) (by omega)) (Nat.le_of_ble_eq_true rfl) ?_
          exact Go_lretV d_X_sender_89 (by
            unfold senderV
            rw [if_pos (by omega), seV_w hW h9.1 (fun q => h43 ⟨h9, q⟩) hp, whV_Q h9.1, frV_mul (held_nn hW u _) (Wr_pos r) (Qr_pos r)]
            rfl)
        · refine Go_iload d_X_sender_46 lg3 ?_
          refine Go_const d_X_sender_47 ?_
          refine Go_icmp_ne d_X_sender_49 (by omega) (by omega) (fun h49 => ?_) (fun h49 => ?_)
          · refine Go_lconst d_X_sender_56 ?_
            refine Go_lconst d_X_sender_57 ?_
            refine Go_iload d_X_sender_58 lg4 ?_
            refine Go_S3p d_X_sender_60 (c_X_lowest _ _ _ (by omega) (by omega) (by omega)) (Nat.le_of_ble_eq_true rfl) ?_
            exact Go_lretV d_X_sender_63 (by
              unfold senderV
              rw [if_pos (by omega), seV_own (by omega) h43.2]
              have := frV_mul (a := if u = 9 then 1 else 0) (b := 1) (c := whV N) (v := v) (by split <;> omega) (by decide) (by omega)
              rw [Int.one_mul] at this
              first
                | (rw [if_pos (by assumption), Int.one_mul] at this; rw [if_pos (by assumption), this])
                | (rw [if_neg (by assumption), Int.zero_mul] at this; rw [if_neg (by assumption), this]))
          · refine Go_lconst d_X_sender_52 ?_
            refine Go_goto d_X_sender_53 ?_
            refine Go_lconst d_X_sender_57 ?_
            refine Go_iload d_X_sender_58 lg4 ?_
            refine Go_S3p d_X_sender_60 (c_X_lowest _ _ _ (by omega) (by omega) (by omega)) (Nat.le_of_ble_eq_true rfl) ?_
            exact Go_lretV d_X_sender_63 (by
              unfold senderV
              rw [if_pos (by omega), seV_own (by omega) h43.2]
              have := frV_mul (a := if u = 9 then 1 else 0) (b := 1) (c := whV N) (v := v) (by split <;> omega) (by decide) (by omega)
              rw [Int.one_mul] at this
              first
                | (rw [if_pos (by assumption), Int.one_mul] at this; rw [if_pos (by assumption), this])
                | (rw [if_neg (by assumption), Int.zero_mul] at this; rw [if_neg (by assumption), this]))
      · refine Go_lconst d_X_sender_30 ?_
        exact Go_lretV d_X_sender_33 (by
          unfold senderV
          rw [if_neg]
          rintro ⟨z1, z2, z3, z4, z5⟩
          have := lout_has hW z1 z3
          omega)
theorem c_X_stays (i v : Int) (hi : -2147483648 ≤ i ∧ i < 2147483648) (hv : -2147483648 ≤ v ∧ v < 2147483648) (hB : BR (S 1) N) (hW : WF N) : Fn G k_X_stays [oR G 0, vI i, vI v] S (PV (vL (staysV N i v)) S) := by
  have hN := hW.1
  have hc : 1 ≤ 1 ∧ 1 ≤ 14 := by decide
  obtain ⟨a1, ⟨a2, a3, a4, a5⟩, a6, a7, a8, a9⟩ := id hB
  obtain ⟨hr, i0, i1, i2, i3, i4, i5, i6⟩ := id hN
  have hc0 := cnt_0 N (N 5).toNat
  have hc12 := hW.2.1
  refine Fn.of [some (oR G 0), some (vI i), some (vI v), none] 1 rfl (by decide +kernel) rfl (Nat.le_of_ble_eq_true rfl) (by decide) ?_
  refine Go_aload d_X_stays_0 lg0 ⟨_, rfl⟩ ?_
  refine Go_get d_X_stays_1 fx_0 ?_
  refine Go_iload d_X_stays_4 lg1 ?_
  refine Go_V1p d_X_stays_5 (kB (by first | assumption | decide | omega)) (c_B_hasLetter _ (by omega) (by first | assumption | decide) hB hN) (Nat.le_of_ble_eq_true rfl) ?_
  refine Go_ifeq_d d_X_stays_8 (fun h8 => ?_) (fun h8 => ?_)
  · refine Go_lconst d_X_stays_18 ?_
    exact Go_lretV d_X_stays_21 (by unfold staysV; rw [if_neg (by omega)])
  · refine Go_iload d_X_stays_11 lg2 ?_
    refine Go_S1p d_X_stays_12 (c_X_isPart _ (by omega)) (Nat.le_of_ble_eq_true rfl) ?_
    refine Go_ifne_d d_X_stays_15 (fun h15 => ?_) (fun h15 => ?_)
    · obtain ⟨l0, l1, l2, l3, l4⟩ := hW.2.2.1 i h8.1 h8.2
      have hkn := prK_nn hW (lf N i 2).toNat (N 6 - lf N i 2).toNat
      have hkl := prK_le hW (lf N i 2).toNat (N 6 - lf N i 2).toNat
      have hsb := prS_b hW (f := (lf N i 2).toNat) (k := (N 6 - lf N i 2).toNat) (by omega)
      have hsp := prS_pos (mM N) (lf N i 2).toNat (N 6 - lf N i 2).toNat
      refine Go_aload d_X_stays_22 lg0 ⟨_, rfl⟩ ?_
      refine Go_get d_X_stays_23 fx_0 ?_
      refine Go_iload d_X_stays_26 lg1 ?_
      refine Go_V1p d_X_stays_27 (kB (by first | assumption | decide | omega)) (c_B_senderOf _ (by omega) (by first | assumption | decide) hB hN) (Nat.le_of_ble_eq_true rfl) ?_
      rw [if_pos h8]
      refine Go_const d_X_stays_30 ?_
      refine Go_icmp_ne d_X_stays_32 (by omega) (by omega) (fun h32 => ?_) (fun h32 => ?_)
      · refine Go_aload d_X_stays_39 lg0 ⟨_, rfl⟩ ?_
        refine Go_get d_X_stays_40 fx_0 ?_
        refine Go_iload d_X_stays_43 lg1 ?_
        refine Go_V1p d_X_stays_44 (kB (by first | assumption | decide | omega)) (c_B_firstOf _ (by omega) (by first | assumption | decide) hB hN) (Nat.le_of_ble_eq_true rfl) ?_
        rw [if_pos h8]
        refine Go_istore d_X_stays_47 rfl sa3 ?_
        refine Go_aload d_X_stays_48 lg0 ⟨_, rfl⟩ ?_
        refine Go_get d_X_stays_49 fx_0 ?_
        refine Go_iload d_X_stays_52 lg3 ?_
        refine Go_aload d_X_stays_53 lg0 ⟨_, rfl⟩ ?_
        refine Go_get d_X_stays_54 fx_0 ?_
        refine Go_get d_X_stays_57 (fb_10 (by first | assumption | decide | omega)) ?_
        rw [a5]
        refine Go_S3p d_X_stays_60 (c_W_left _ _ (by omega) (by omega) (by first | assumption | decide) hB hW) (Nat.le_of_ble_eq_true rfl) ?_
        refine Go_aload d_X_stays_63 lg0 ⟨_, rfl⟩ ?_
        refine Go_get d_X_stays_64 fx_0 ?_
        refine Go_iload d_X_stays_67 lg3 ?_
        refine Go_aload d_X_stays_68 lg0 ⟨_, rfl⟩ ?_
        refine Go_get d_X_stays_69 fx_0 ?_
        refine Go_get d_X_stays_72 (fb_10 (by first | assumption | decide | omega)) ?_
        rw [a5]
        refine Go_S3p d_X_stays_75 (c_W_whole _ _ (by omega) (by omega) (by first | assumption | decide) hB hW) (Nat.le_of_ble_eq_true rfl) ?_
        refine Go_iload d_X_stays_78 lg2 ?_
        refine Go_S3p d_X_stays_79 (c_X_lowest _ _ _ (by omega) (by omega) (by omega)) (Nat.le_of_ble_eq_true rfl) ?_
        exact Go_lretV d_X_stays_82 (by unfold staysV; rw [if_pos (by omega), if_neg h32, stays_eq hW h8])
      · refine Go_lconst d_X_stays_35 ?_
        exact Go_lretV d_X_stays_38 (by unfold staysV; rw [if_pos (by omega), if_pos h32])
    · refine Go_lconst d_X_stays_18 ?_
      exact Go_lretV d_X_stays_21 (by unfold staysV; rw [if_neg (by omega)])
theorem c_X_expected (u x v : Int) (hu : -2147483648 ≤ u ∧ u < 2147483648) (hx : -2147483648 ≤ x ∧ x < 2147483648) (hv : -2147483648 ≤ v ∧ v < 2147483648) (hB : BR (S 1) N) (hW : WF N) : Fn G k_X_expected [oR G 0, vI u, vI x, vI v] S (PV (vL (expV N u x v)) S) := by
  have hN := hW.1
  have hc : 1 ≤ 1 ∧ 1 ≤ 14 := by decide
  obtain ⟨a1, ⟨a2, a3, a4, a5⟩, a6, a7, a8, a9⟩ := id hB
  obtain ⟨hr, i0, i1, i2, i3, i4, i5, i6⟩ := id hN
  have hc0 := cnt_0 N (N 5).toNat
  have hc12 := hW.2.1
  have hwh := whV_rg (WN_of hW)
  have hee := exV_es hW u x
  have her := exV_rg (WN_of hW) (u := u) (v := x) (N 5).toNat (by omega)
  rw [hee] at her
  have hwe : whV N = prS (mM N) (0 : Int).toNat (N 6 - 0).toNat := by unfold whV; rw [Int.sub_zero]; rfl
  refine Fn.of [some (oR G 0), some (vI u), some (vI x), some (vI v)] 0 rfl (by decide +kernel) rfl (Nat.le_of_ble_eq_true rfl) (by decide) ?_
  refine Go_iload d_X_expected_0 lg1 ?_
  refine Go_const d_X_expected_1 ?_
  refine Go_const d_X_expected_2 ?_
  refine Go_S3p d_X_expected_4 (c_X_within _ _ _ (by omega) (by omega) (by omega)) (Nat.le_of_ble_eq_true rfl) ?_
  refine Go_ifeq_d d_X_expected_7 (fun h7 => ?_) (fun h7 => ?_)
  · refine Go_lconst d_X_expected_27 ?_
    exact Go_lretV d_X_expected_30 (by unfold expV; rw [if_neg (by omega)])
  · refine Go_iload d_X_expected_10 lg2 ?_
    refine Go_const d_X_expected_11 ?_
    refine Go_const d_X_expected_12 ?_
    refine Go_S3p d_X_expected_14 (c_X_within _ _ _ (by omega) (by omega) (by omega)) (Nat.le_of_ble_eq_true rfl) ?_
    refine Go_ifeq_d d_X_expected_17 (fun h17 => ?_) (fun h17 => ?_)
    · refine Go_lconst d_X_expected_27 ?_
      exact Go_lretV d_X_expected_30 (by unfold expV; rw [if_neg (by omega)])
    · refine Go_iload d_X_expected_20 lg3 ?_
      refine Go_S1p d_X_expected_21 (c_X_isPart _ (by omega)) (Nat.le_of_ble_eq_true rfl) ?_
      refine Go_ifne_d d_X_expected_24 (fun h24 => ?_) (fun h24 => ?_)
      · refine Go_aload d_X_expected_31 lg0 ⟨_, rfl⟩ ?_
        refine Go_get d_X_expected_32 fx_0 ?_
        refine Go_iload d_X_expected_35 lg1 ?_
        refine Go_iload d_X_expected_36 lg2 ?_
        refine Go_S3p d_X_expected_37 (c_W_expectedWeight _ _ (by omega) (by omega) (by first | assumption | decide) hB hW) (Nat.le_of_ble_eq_true rfl) ?_
        refine Go_aload d_X_expected_40 lg0 ⟨_, rfl⟩ ?_
        refine Go_get d_X_expected_41 fx_0 ?_
        refine Go_const d_X_expected_44 ?_
        refine Go_aload d_X_expected_45 lg0 ⟨_, rfl⟩ ?_
        refine Go_get d_X_expected_46 fx_0 ?_
        refine Go_get d_X_expected_49 (fb_10 (by first | assumption | decide | omega)) ?_
        rw [a5]
        refine Go_S3p d_X_expected_52 (c_W_whole _ _ (by omega) (by omega) (by first | assumption | decide) hB hW) (Nat.le_of_ble_eq_true rfl) ?_
        rw [← hwe]
        refine Go_iload d_X_expected_55 lg3 ?_
        refine Go_S3p d_X_expected_56 (c_X_lowest _ _ _ (by omega) (by omega) (by omega)) (Nat.le_of_ble_eq_true rfl) ?_
        exact Go_lretV d_X_expected_59 (by unfold expV; rw [if_pos (by omega), hee])
      · refine Go_lconst d_X_expected_27 ?_
        exact Go_lretV d_X_expected_30 (by unfold expV; rw [if_neg (by omega)])
theorem c_X_blend (hB : BR (S 1) N) (hW : WF N) : Fn G k_X_blend [oR G 0] S (PV (vI (blendV N)) S) := by
  have hN := hW.1
  have hc : 1 ≤ 1 ∧ 1 ≤ 14 := by decide
  obtain ⟨a1, ⟨a2, a3, a4, a5⟩, a6, a7, a8, a9⟩ := id hB
  obtain ⟨hr, i0, i1, i2, i3, i4, i5, i6⟩ := id hN
  have hc0 := cnt_0 N (N 5).toNat
  have hc12 := hW.2.1
  have t0 := a1 0 (by decide)
  have t1 := a1 1 (by decide)
  have t3 := a1 3 (by decide)
  refine Fn.of [some (oR G 0), none] 1 rfl (by decide +kernel) rfl (Nat.le_of_ble_eq_true rfl) (by decide) ?_
  refine Go_aload d_X_blend_0 lg0 ⟨_, rfl⟩ ?_
  refine Go_get d_X_blend_1 fx_0 ?_
  refine Go_get d_X_blend_4 (fb_0 (by first | assumption | decide | omega)) ?_
  refine Go_const d_X_blend_7 ?_
  refine Go_ialdC (k0 := 0) d_X_blend_8 (ab_0 (by first | assumption | decide | omega)) rfl (by decide) ?_
  refine Go_if_ne d_X_blend_9 (by omega) (fun h9 => ?_) (fun h9 => ?_)
  · refine Go_const d_X_blend_24 ?_
    exact Go_iretV d_X_blend_26 (by unfold blendV; (repeat' split) <;> omega)
  · refine Go_aload d_X_blend_12 lg0 ⟨_, rfl⟩ ?_
    refine Go_get d_X_blend_13 fx_0 ?_
    refine Go_get d_X_blend_16 (fb_0 (by first | assumption | decide | omega)) ?_
    refine Go_const d_X_blend_19 ?_
    refine Go_ialdC (k0 := 3) d_X_blend_20 (ab_0 (by first | assumption | decide | omega)) rfl (by decide) ?_
    refine Go_if_le d_X_blend_21 (by omega) (fun h21 => ?_) (fun h21 => ?_)
    · refine Go_aload d_X_blend_27 lg0 ⟨_, rfl⟩ ?_
      refine Go_get d_X_blend_28 fx_0 ?_
      refine Go_get d_X_blend_31 (fb_8 (by first | assumption | decide | omega)) ?_
      refine Go_if_ne d_X_blend_34 (by omega) (fun h34 => ?_) (fun h34 => ?_)
      · refine Go_const d_X_blend_41 ?_
        refine Go_aload d_X_blend_42 lg0 ⟨_, rfl⟩ ?_
        refine Go_get d_X_blend_43 fx_0 ?_
        refine Go_get d_X_blend_46 (fb_0 (by first | assumption | decide | omega)) ?_
        refine Go_const d_X_blend_49 ?_
        refine Go_ialdC (k0 := 1) d_X_blend_50 (ab_0 (by first | assumption | decide | omega)) rfl (by decide) ?_
        refine Go_aload d_X_blend_51 lg0 ⟨_, rfl⟩ ?_
        refine Go_get d_X_blend_52 fx_0 ?_
        refine Go_get d_X_blend_55 (fb_8 (by first | assumption | decide | omega)) ?_
        refine Go_isub d_X_blend_58 ?_
        refine Go_S2p d_X_blend_59 (c_J_max _ _ (by omega) (by omega)) (Nat.le_of_ble_eq_true rfl) ?_
        refine Go_istore d_X_blend_62 rfl sa1 ?_
        refine Go_iload d_X_blend_63 lg1 ?_
        refine Go_aload d_X_blend_64 lg0 ⟨_, rfl⟩ ?_
        refine Go_get d_X_blend_65 fx_0 ?_
        refine Go_get d_X_blend_68 (fb_0 (by first | assumption | decide | omega)) ?_
        refine Go_const d_X_blend_71 ?_
        refine Go_ialdC (k0 := 1) d_X_blend_72 (ab_0 (by first | assumption | decide | omega)) rfl (by decide) ?_
        refine Go_iadd d_X_blend_73 ?_
        refine Go_const d_X_blend_74 ?_
        refine Go_isub d_X_blend_75 ?_
        exact Go_iretV d_X_blend_76 (by unfold blendV; (repeat' split) <;> omega)
      · refine Go_const d_X_blend_37 ?_
        refine Go_goto d_X_blend_38 ?_
        refine Go_istore d_X_blend_62 rfl sa1 ?_
        refine Go_iload d_X_blend_63 lg1 ?_
        refine Go_aload d_X_blend_64 lg0 ⟨_, rfl⟩ ?_
        refine Go_get d_X_blend_65 fx_0 ?_
        refine Go_get d_X_blend_68 (fb_0 (by first | assumption | decide | omega)) ?_
        refine Go_const d_X_blend_71 ?_
        refine Go_ialdC (k0 := 1) d_X_blend_72 (ab_0 (by first | assumption | decide | omega)) rfl (by decide) ?_
        refine Go_iadd d_X_blend_73 ?_
        refine Go_const d_X_blend_74 ?_
        refine Go_isub d_X_blend_75 ?_
        exact Go_iretV d_X_blend_76 (by unfold blendV; (repeat' split) <;> omega)
    · refine Go_const d_X_blend_24 ?_
      exact Go_iretV d_X_blend_26 (by unfold blendV; (repeat' split) <;> omega)
end XRead
