/-! ===== the tape ===== -/
theorem evF_t {T : Row} {L p : Int} (h : sg T L (skp T L p) = 46) : evF T L p = (99, skp T L p + 1) := by unfold evF; rw [if_pos h]
theorem evF_n1 {T : Row} {L p : Int} (h : sg T L (skp T L p) ≠ 46) (h1 : ¬ ((48 ≤ sg T L (skp T L p) ∧ sg T L (skp T L p) ≤ 55) ∨ sg T L (skp T L p) = 33)) : evF T L p = (-1, skp T L p) := by unfold evF; rw [if_neg h, if_pos h1]
theorem evF_n2 {T : Row} {L p : Int} (h : sg T L (skp T L p) ≠ 46) (h1 : (48 ≤ sg T L (skp T L p) ∧ sg T L (skp T L p) ≤ 55) ∨ sg T L (skp T L p) = 33) (h2 : sg T L (skp T L (skp T L p + 1)) ≠ 62) : evF T L p = (-1, skp T L (skp T L p + 1)) := by unfold evF; rw [if_neg h, if_neg (not_not_intro h1), if_pos h2]
theorem evF_n3 {T : Row} {L p : Int} (h : sg T L (skp T L p) ≠ 46) (h1 : (48 ≤ sg T L (skp T L p) ∧ sg T L (skp T L p) ≤ 55) ∨ sg T L (skp T L p) = 33) (h2 : sg T L (skp T L (skp T L p + 1)) = 62) (h3 : ¬ (48 ≤ sg T L (skp T L (skp T L (skp T L p + 1) + 1)) ∧ sg T L (skp T L (skp T L (skp T L p + 1) + 1)) ≤ 55)) : evF T L p = (-1, skp T L (skp T L (skp T L p + 1) + 1)) := by unfold evF; rw [if_neg h, if_neg (not_not_intro h1), if_neg (not_not_intro h2), if_pos h3]
theorem evF_ok {T : Row} {L p : Int} (h : sg T L (skp T L p) ≠ 46) (h1 : (48 ≤ sg T L (skp T L p) ∧ sg T L (skp T L p) ≤ 55) ∨ sg T L (skp T L p) = 33) (h2 : sg T L (skp T L (skp T L p + 1)) = 62) (h3 : 48 ≤ sg T L (skp T L (skp T L (skp T L p + 1) + 1)) ∧ sg T L (skp T L (skp T L (skp T L p + 1) + 1)) ≤ 55) : evF T L p = (10 * (if sg T L (skp T L p) = 33 then 9 else sg T L (skp T L p) - 48) + sg T L (skp T L (skp T L (skp T L p + 1) + 1)) - 48, skp T L (skp T L (skp T L p + 1) + 1) + 1) := by unfold evF; rw [if_neg h, if_neg (not_not_intro h1), if_neg (not_not_intro h2), if_neg (not_not_intro h3)]
theorem evF_8 {T : Row} {L p : Int} (hn : 0 ≤ (evF T L p).1) : (evF T L p).1 = 99 ∨ ((0 ≤ (evF T L p).1 / 10 ∧ (evF T L p).1 / 10 ≤ 9 ∧ (evF T L p).1 / 10 ≠ 8) ∧ (evF T L p).1 % 10 ≤ 7 ∧ (evF T L p).1 ≤ 97) := by
  by_cases h : sg T L (skp T L p) = 46
  · left; rw [evF_t h]
  by_cases h1 : (48 ≤ sg T L (skp T L p) ∧ sg T L (skp T L p) ≤ 55) ∨ sg T L (skp T L p) = 33
  · by_cases h2 : sg T L (skp T L (skp T L p + 1)) = 62
    · by_cases h3 : 48 ≤ sg T L (skp T L (skp T L (skp T L p + 1) + 1)) ∧ sg T L (skp T L (skp T L (skp T L p + 1) + 1)) ≤ 55
      · right; rw [evF_ok h h1 h2 h3]; dsimp only; split <;> omega
      · rw [evF_n3 h h1 h2 h3] at hn; exact absurd (show (0 : Int) ≤ -1 from hn) (by decide)
    · rw [evF_n2 h h1 h2] at hn; exact absurd (show (0 : Int) ≤ -1 from hn) (by decide)
  · rw [evF_n1 h h1] at hn; exact absurd (show (0 : Int) ≤ -1 from hn) (by decide)
def posK (T : Row) (L : Int) : Nat → Int
  | 0 => 0
  | k + 1 => (evF T L (posK T L k)).2
def codK (T : Row) (L : Int) (k : Nat) : Int := (evF T L (posK T L k)).1
def sndC (c : Int) : Int := if c = 99 then -1 else c / 10
def rcvC (c : Int) : Int := if c = 99 then 0 else c % 10
def EvA (S : St) (T : Row) (L e : Int) : Prop := ∀ k : Nat, (k : Int) < e → S 17 2 k = sndC (codK T L k) ∧ S 17 3 k = rcvC (codK T L k)
def FrT (S S1 : St) : Prop := S1 17 0 = S 17 0 ∧ S1 17 1 = S 17 1 ∧ ∀ c, c ≠ 17 → S1 c = S c
def evS (S : St) (e s r : Int) : St := st3 (st3 (st3 S 17 2 e.toNat s) 17 3 e.toNat r) 17 4 0 (e + 1)
theorem evS_0 (S : St) (e s r : Int) : evS S e s r 17 0 = S 17 0 := by funext x; unfold evS; rw [st3_j (by decide), st3_j (by decide), st3_j (by decide)]
theorem evS_1 (S : St) (e s r : Int) : evS S e s r 17 1 = S 17 1 := by funext x; unfold evS; rw [st3_j (by decide), st3_j (by decide), st3_j (by decide)]
theorem evS_c {S : St} {e s r : Int} {c : Nat} (h : c ≠ 17) : evS S e s r c = S c := by unfold evS; rw [st3_sB, sB_c h, st3_sB, sB_c h, st3_sB, sB_c h]
theorem evS_4 (S : St) (e s r : Int) : evS S e s r 17 4 0 = e + 1 := st3_s _ _ _ _ _
theorem EvA.ev {S : St} {T : Row} {L e : Int} {s r : Int} (h : EvA S T L e) (he : 0 ≤ e) (hs : s = sndC (codK T L e.toNat)) (hr : r = rcvC (codK T L e.toNat)) : EvA (evS S e s r) T L (e + 1) := by
  intro k hk
  unfold evS
  by_cases q : k = e.toNat
  · subst q
    exact ⟨by rw [st3_j (by decide), st3_j (by decide), st3_s]; exact hs, by rw [st3_j (by decide), st3_s]; exact hr⟩
  · obtain ⟨a, b⟩ := h k (by omega)
    exact ⟨by rw [st3_j (by decide), st3_j (by decide), st3_i q]; exact a, by rw [st3_j (by decide), st3_i q, st3_j (by decide)]; exact b⟩
theorem gth_S {T : Row} {L e p : Int} {f : Nat} : gth T L (f + 1) e p = if e ≠ 0 ∧ L ≤ skp T L p then (true, e, skp T L p) else if (evF T L p).1 < 0 then (false, e, (evF T L p).2) else gth T L f (e + 1) (evF T L p).2 := rfl
theorem gthD_S {T : Row} {L e p : Int} {f : Nat} {N : Row} : gthD T L (f + 1) e p N = if e ≠ 0 ∧ L ≤ skp T L p then (e, skp T L p, N) else if (evF T L p).1 < 0 then (e, (evF T L p).2, N) else if (evDo N (evF T L p).1).1 < 0 then (e, (evF T L p).2, (evDo N (evF T L p).1).2) else gthD T L f (e + 1) (evF T L p).2 (evDo N (evF T L p).1).2 := by simp only [gthD]
theorem gth_le {T : Row} {L : Int} : ∀ (f : Nat) (e p : Int), e ≤ (gth T L f e p).2.1 := by
  intro f
  induction f with
  | zero => intro e p; exact Int.le_refl _
  | succ f ih =>
    intro e p
    rw [gth_S]
    split
    · exact Int.le_refl _
    · split
      · exact Int.le_refl _
      · have := ih (e + 1) (evF T L p).2; omega
section Tape
variable {G : GT} {S : St} {T : Row} {L : Int}
theorem c_T_signAt (p : Int) (hp : 0 ≤ p ∧ p ≤ 1000) (e0 : S 17 0 = T) (e1 : S 17 1 0 = L) (hT : TOk T L) : Fn G k_T_signAt [oR G 17, vI p] S (PV (vI (sg T L p)) S) := by
  have hL := hT.1
  refine Fn.of [some (oR G 17), some (vI p)] 0 rfl (by decide +kernel) rfl (Nat.le_of_ble_eq_true rfl) (by decide) ?_
  refine Go_iload d_T_signAt_0 lg1 ?_
  refine Go_if_lt d_T_signAt_1 (by omega) (fun h1 => ?_) (fun h1 => ?_)
  · refine Go_const d_T_signAt_27 ?_
    first
      | exact Go_iretV d_T_signAt_28 (by unfold sg; rw [if_pos (by omega), e0])
      | exact Go_iretV d_T_signAt_28 (by unfold sg; rw [if_neg (by omega)])
      | (exfalso; omega)
  · refine Go_iload d_T_signAt_4 lg1 ?_
    refine Go_aload d_T_signAt_5 lg0 ⟨_, rfl⟩ ?_
    refine Go_get d_T_signAt_6 ft_1 ?_
    refine Go_icmp_ge d_T_signAt_9 (by omega) (by omega) (fun h9 => ?_) (fun h9 => ?_)
    · refine Go_const d_T_signAt_27 ?_
      first
        | exact Go_iretV d_T_signAt_28 (by unfold sg; rw [if_pos (by omega), e0])
        | exact Go_iretV d_T_signAt_28 (by unfold sg; rw [if_neg (by omega)])
        | (exfalso; omega)
    · refine Go_iload d_T_signAt_12 lg1 ?_
      refine Go_const d_T_signAt_13 ?_
      refine Go_icmp_ge d_T_signAt_15 (by omega) (by omega) (fun h15 => ?_) (fun h15 => ?_)
      · refine Go_const d_T_signAt_27 ?_
        first
          | exact Go_iretV d_T_signAt_28 (by unfold sg; rw [if_pos (by omega), e0])
          | exact Go_iretV d_T_signAt_28 (by unfold sg; rw [if_neg (by omega)])
          | (exfalso; omega)
      · refine Go_aload d_T_signAt_18 lg0 ⟨_, rfl⟩ ?_
        refine Go_get d_T_signAt_19 ft_0 ?_
        refine Go_iload d_T_signAt_22 lg1 ?_
        refine Go_iald d_T_signAt_23 at_0 (by omega) ?_
        refine Go_goto d_T_signAt_24 ?_
        first
          | exact Go_iretV d_T_signAt_28 (by unfold sg; rw [if_pos (by omega), e0])
          | exact Go_iretV d_T_signAt_28 (by unfold sg; rw [if_neg (by omega)])
          | (exfalso; omega)
theorem c_T_skipBlanks (p : Int) (hp : 0 ≤ p ∧ p ≤ L) (e0 : S 17 0 = T) (e1 : S 17 1 0 = L) (hT : TOk T L) : Fn G k_T_skipBlanks [oR G 17, vI p] S (PV (vI (skp T L p)) S) := by
  have hL := hT.1
  refine Fn.of [some (oR G 17), some (vI p), none] 1 rfl (by decide +kernel) rfl (Nat.le_of_ble_eq_true rfl) (by decide) ?_

  have loop := loopI (fun b => skp T L b = skp T L p → Go G k_T_skipBlanks 2 [some (oR G 17), some (vI p), some (vI b)] [] S (PV (vI (skp T L p)) S)) L ?_ ?_
  refine Go_iload d_T_skipBlanks_0 lg1 ?_
  refine Go_istore d_T_skipBlanks_1 rfl sa2 ?_
  exact loop p hp.1 hp.2 rfl
  · intro he
    refine Go_iload d_T_skipBlanks_2 lg2 ?_
    refine Go_aload d_T_skipBlanks_3 lg0 ⟨_, rfl⟩ ?_
    refine Go_get d_T_skipBlanks_4 ft_1 ?_
    refine Go_icmp_ge d_T_skipBlanks_7 (by omega) (by rw [e1]; omega) (fun h7 => ?_) (fun h7 => absurd h7 (by rw [e1]; omega))
    refine Go_iload d_T_skipBlanks_26 lg2 ?_
    exact Go_iretV d_T_skipBlanks_27 (by rw [← he, skp_en (by omega)])
  · intro b h0 h1 ih he
    have hs := sg_rg hT h0
    refine Go_iload d_T_skipBlanks_2 lg2 ?_
    refine Go_aload d_T_skipBlanks_3 lg0 ⟨_, rfl⟩ ?_
    refine Go_get d_T_skipBlanks_4 ft_1 ?_
    refine Go_icmp_ge d_T_skipBlanks_7 (by omega) (by rw [e1]; omega) (fun h7 => absurd h7 (by rw [e1]; omega)) (fun h7 => ?_)
    refine Go_aload d_T_skipBlanks_10 lg0 ⟨_, rfl⟩ ?_
    refine Go_iload d_T_skipBlanks_11 lg2 ?_
    refine Go_V1p d_T_skipBlanks_12 kT (c_T_signAt _ (by omega) e0 e1 hT) (Nat.le_of_ble_eq_true rfl) ?_
    refine Go_const d_T_skipBlanks_15 ?_
    refine Go_icmp_ne d_T_skipBlanks_17 (by omega) (by omega) (fun h17 => ?_) (fun h17 => ?_)
    · refine Go_iload d_T_skipBlanks_26 lg2 ?_
      refine Go_iretV d_T_skipBlanks_27 ?_
      rw [← he, skp_en]
      rintro ⟨-, q⟩
      refine h17 ?_
      unfold sg
      rw [if_pos h1]
      exact q
    · refine Go_iinc d_T_skipBlanks_20 lg2 rfl sa2 ?_
      refine Go_goto d_T_skipBlanks_23 ?_
      refine ih ?_
      rw [← he, skp_st h1]
      unfold sg at h17
      rw [if_pos h1] at h17
      exact h17
def figV (s : Int) : Int := if 48 ≤ s ∧ s ≤ 55 then s - 48 else -4
def senV (s : Int) : Int := if s = 46 then -1 else if s = 33 then 9 else figV s
theorem c_T_figureAt (p : Int) (hp : 0 ≤ p ∧ p ≤ 1000) (e0 : S 17 0 = T) (e1 : S 17 1 0 = L) (hT : TOk T L) : Fn G k_T_figureAt [oR G 17, vI p] S (PV (vI (figV (sg T L p))) S) := by
  have hs := sg_rg hT hp.1
  refine Fn.of [some (oR G 17), some (vI p), none] 1 rfl (by decide +kernel) rfl (Nat.le_of_ble_eq_true rfl) (by decide) ?_
  refine Go_aload d_T_figureAt_0 lg0 ⟨_, rfl⟩ ?_
  refine Go_iload d_T_figureAt_1 lg1 ?_
  refine Go_V1p d_T_figureAt_2 kT (c_T_signAt _ (by omega) e0 e1 hT) (Nat.le_of_ble_eq_true rfl) ?_
  refine Go_const d_T_figureAt_5 ?_
  refine Go_isub d_T_figureAt_7 ?_
  refine Go_istore d_T_figureAt_8 rfl sa2 ?_
  refine Go_iload d_T_figureAt_9 lg2 ?_
  refine Go_const d_T_figureAt_10 ?_
  refine Go_const d_T_figureAt_11 ?_
  refine Go_S3p d_T_figureAt_13 (c_X_within _ _ _ (by omega) (by omega) (by omega)) (Nat.le_of_ble_eq_true rfl) ?_
  refine Go_ifeq_d d_T_figureAt_16 (fun h16 => ?_) (fun h16 => ?_)
  · refine Go_const d_T_figureAt_23 ?_
    first
      | exact Go_iretV d_T_figureAt_25 (by unfold figV; rw [if_pos (by omega)])
      | exact Go_iretV d_T_figureAt_25 (by unfold figV; rw [if_neg (by omega)])
  · refine Go_iload d_T_figureAt_19 lg2 ?_
    refine Go_goto d_T_figureAt_20 ?_
    first
      | exact Go_iretV d_T_figureAt_25 (by unfold figV; rw [if_pos (by omega)])
      | exact Go_iretV d_T_figureAt_25 (by unfold figV; rw [if_neg (by omega)])
theorem lsw_no {x : Int} (h : x ≠ 33) (h2 : x ≠ 46) : Op.lookupswitch.offset #[((33 : Int), (29 : Int)), (46, 27)].toList 32 x = 32 := by simp [Op.lookupswitch.offset, h, h2, Ne.symm h, Ne.symm h2]
theorem c_T_senderAt (p : Int) (hp : 0 ≤ p ∧ p ≤ 1000) (e0 : S 17 0 = T) (e1 : S 17 1 0 = L) (hT : TOk T L) : Fn G k_T_senderAt [oR G 17, vI p] S (PV (vI (senV (sg T L p))) S) := by
  have hs := sg_rg hT hp.1
  refine Fn.of [some (oR G 17), some (vI p)] 0 rfl (by decide +kernel) rfl (Nat.le_of_ble_eq_true rfl) (by decide) ?_
  refine Go_aload d_T_senderAt_0 lg0 ⟨_, rfl⟩ ?_
  refine Go_iload d_T_senderAt_1 lg1 ?_
  refine Go_V1p d_T_senderAt_2 kT (c_T_signAt _ (by omega) e0 e1 hT) (Nat.le_of_ble_eq_true rfl) ?_
  by_cases h46 : sg T L p = 46
  · rw [h46]
    refine Go_lsw (off := 27) (t := 32) d_T_senderAt_5 (by decide +kernel) (by decide) (by decide +kernel) (by decide) ?_
    refine Go_const d_T_senderAt_32 ?_
    exact Go_iretV d_T_senderAt_33 rfl
  · by_cases h33 : sg T L p = 33
    · rw [h33]
      refine Go_lsw (off := 29) (t := 34) d_T_senderAt_5 (by decide +kernel) (by decide) (by decide +kernel) (by decide) ?_
      refine Go_const d_T_senderAt_34 ?_
      exact Go_iretV d_T_senderAt_36 rfl
    · refine Go_lsw (off := 32) (t := 37) d_T_senderAt_5 (by decide +kernel) (by omega) (lsw_no h33 h46) (by decide) ?_
      refine Go_aload d_T_senderAt_37 lg0 ⟨_, rfl⟩ ?_
      refine Go_iload d_T_senderAt_38 lg1 ?_
      refine Go_V1p d_T_senderAt_39 kT (c_T_figureAt _ hp e0 e1 hT) (Nat.le_of_ble_eq_true rfl) ?_
      exact Go_iretV d_T_senderAt_42 (by unfold senV; rw [if_neg h46, if_neg h33])
theorem c_T_parse (e0 : S 17 0 = T) (e1 : S 17 1 0 = L) (hT : TOk T L) : Fn G k_T_parse [oR G 17] S (PI (fun z S1 => FrT S S1 ∧ (((gth T L 91 0 0).1 = false ∧ z = (gth T L 91 0 0).2.2) ∨ ((gth T L 91 0 0).1 = true ∧ z = -1 ∧ S1 17 4 0 = (gth T L 91 0 0).2.1 ∧ EvA S1 T L (gth T L 91 0 0).2.1)))) := by
  have hL := hT.1
  generalize hRR : gth T L 91 0 0 = RR
  refine Fn.of [some (oR G 17), none, none, none, none] 4 rfl (by decide +kernel) rfl (Nat.le_of_ble_eq_true rfl) (by decide) ?_

  have loop := loopI (fun e => ∀ (S1 : St) (q : Int) (x3 x4 : Option Value), FrT S S1 → S1 17 4 0 = e → EvA S1 T L e → q = posK T L e.toNat → (e ≤ q ∧ q ≤ L) → gth T L (91 - e).toNat e q = RR → Go G k_T_parse 13 [some (oR G 17), some (vI (skp T L q)), some (vI e), x3, x4] [] S1 (PI (fun z S1 => FrT S S1 ∧ ((RR.1 = false ∧ z = RR.2.2) ∨ (RR.1 = true ∧ z = -1 ∧ S1 17 4 0 = RR.2.1 ∧ EvA S1 T L RR.2.1))))) 90 ?_ ?_
  refine Go_aload d_T_parse_0 lg0 ⟨_, rfl⟩ ?_
  refine Go_const d_T_parse_1 ?_
  refine Go_put d_T_parse_2 (wt_4 _) rfl rfl ?_
  refine Go_aload d_T_parse_5 lg0 ⟨_, rfl⟩ ?_
  refine Go_const d_T_parse_6 ?_
  refine Go_V1p d_T_parse_7 kT (c_T_skipBlanks 0 (by omega) (by rw [← e0]; funext x; rw [st3_j (by decide)]) (by rw [← e1, st3_j (by decide)]) hT) (Nat.le_of_ble_eq_true rfl) ?_
  refine Go_istore d_T_parse_10 rfl sa1 ?_
  refine Go_const d_T_parse_11 ?_
  refine Go_istore d_T_parse_12 rfl sa2 ?_
  exact loop 0 (by omega) (by omega) _ 0 _ _ ⟨by funext x; rw [st3_j (by decide)], by funext x; rw [st3_j (by decide)], fun c hc => by rw [st3_sB, sB_c hc]⟩ (st3_s _ _ _ _ _) (fun k hk => by omega) rfl (by omega) hRR
  · intro S1 q x3 x4 f1 f2 f3 f4 f5 f6
    obtain ⟨b1, b2, b3⟩ := skp_rg (T := T) f5.2
    rw [show (91 - (90 : Int)).toNat = 0 + 1 from rfl, gth_S, if_pos ⟨by decide, by omega⟩] at f6
    subst f6
    refine Go_iload d_T_parse_13 lg2 ?_
    refine Go_const d_T_parse_14 ?_
    refine Go_icmp_ge d_T_parse_16 (by decide) (by decide) (fun h16 => ?_) (fun h16 => absurd h16 (by decide))
    refine Go_const d_T_parse_133 ?_
    exact Go_iretI d_T_parse_134 ⟨f1, Or.inr ⟨rfl, rfl, f2, f3⟩⟩
  · intro e h0 h1 ih S1 q x3 x4 f1 f2 f3 f4 f5 f6
    obtain ⟨b1, b2, b3⟩ := skp_rg (T := T) f5.2
    have s1 := sg_rg hT (show 0 ≤ skp T L q by omega)
    have g0 : S1 17 0 = T := by rw [f1.1]; exact e0
    have g1 : S1 17 1 0 = L := by rw [f1.2.1]; exact e1
    rw [show (91 - e).toNat = (91 - (e + 1)).toNat + 1 by omega, gth_S] at f6
    have hcod : codK T L e.toNat = (evF T L q).1 := by unfold codK; rw [← f4]
    have hpos : (evF T L q).2 = posK T L (e + 1).toNat := by rw [show (e + 1).toNat = e.toNat + 1 by omega]; show _ = (evF T L (posK T L e.toNat)).2; rw [← f4]
    refine Go_iload d_T_parse_13 lg2 ?_
    refine Go_const d_T_parse_14 ?_
    refine Go_icmp_ge d_T_parse_16 (by omega) (by omega) (fun h16 => absurd h16 (by omega)) (fun h16 => ?_)
    refine Go_iload d_T_parse_19 lg1 ?_
    refine Go_aload d_T_parse_20 lg0 ⟨_, rfl⟩ ?_
    refine Go_get d_T_parse_21 ft_1 ?_
    refine Go_icmp_lt d_T_parse_24 (by omega) (by rw [g1]; omega) (fun h24 => ?_) (fun h24 => ?_)
    · have hnn : ¬ (e ≠ 0 ∧ L ≤ skp T L q) := by omega
      refine Go_aload d_T_parse_31 lg0 ⟨_, rfl⟩ ?_
      refine Go_iload d_T_parse_32 lg1 ?_
      refine Go_V1p d_T_parse_33 kT (c_T_senderAt _ (by omega) g0 g1 hT) (Nat.le_of_ble_eq_true rfl) ?_
      by_cases h46 : sg T L (skp T L q) = 46
      · rw [show senV (sg T L (skp T L q)) = -1 by unfold senV; rw [if_pos h46]]
        refine Go_istore d_T_parse_36 rfl sa3 ?_
        refine Go_iload d_T_parse_37 lg3 ?_
        refine Go_const d_T_parse_38 ?_
        refine Go_icmp_ne d_T_parse_40 (by decide) (by decide) (fun h40 => ?_) (fun h40 => absurd h40 (by decide))
        refine Go_const d_T_parse_45 ?_
        refine Go_istore d_T_parse_46 rfl sa4 ?_
        refine Go_iload d_T_parse_48 lg3 ?_
        refine Go_const d_T_parse_49 ?_
        refine Go_icmp_eq d_T_parse_50 (by decide) (by decide) (fun h50 => ?_) (fun h50 => absurd h50 (by decide))
        refine Go_aload d_T_parse_97 lg0 ⟨_, rfl⟩ ?_
        refine Go_get d_T_parse_98 ft_2 ?_
        refine Go_iload d_T_parse_101 lg2 ?_
        refine Go_iload d_T_parse_102 lg3 ?_
        refine Go_iast d_T_parse_103 at_2 (by omega) ?_
        refine Go_aload d_T_parse_104 lg0 ⟨_, rfl⟩ ?_
        refine Go_get d_T_parse_105 ft_3 ?_
        refine Go_iload d_T_parse_108 lg2 ?_
        refine Go_iload d_T_parse_109 lg4 ?_
        refine Go_iast d_T_parse_111 at_3 (by omega) ?_
        refine Go_aload d_T_parse_112 lg0 ⟨_, rfl⟩ ?_
        refine Go_iload d_T_parse_113 lg2 ?_
        refine Go_const d_T_parse_114 ?_
        refine Go_iadd d_T_parse_115 ?_
        refine Go_put d_T_parse_116 (wt_4 _) rfl rfl ?_
        show Go G k_T_parse 119 _ _ (evS S1 e (-1) 0) _
        refine Go_aload d_T_parse_119 lg0 ⟨_, rfl⟩ ?_
        refine Go_iload d_T_parse_120 lg1 ?_
        refine Go_const d_T_parse_121 ?_
        refine Go_iadd d_T_parse_122 ?_
        refine Go_V1p d_T_parse_123 kT (c_T_skipBlanks (skp T L q + 1) (by omega) (by rw [evS_0]; exact g0) (by rw [evS_1]; exact g1) hT) (Nat.le_of_ble_eq_true rfl) ?_
        refine Go_istore d_T_parse_126 rfl sa1 ?_
        refine Go_iinc d_T_parse_127 lg2 rfl sa2 ?_
        refine Go_goto d_T_parse_130 ?_
        have hev := evF_t h46
        rw [if_neg (by omega), hev, if_neg (show ¬ (99 : Int) < 0 by decide)] at f6
        refine ih _ _ _ _ ⟨by rw [evS_0]; exact f1.1, by rw [evS_1]; exact f1.2.1, fun c hc => by rw [evS_c hc]; exact f1.2.2 c hc⟩ (evS_4 _ _ _ _) (f3.ev h0 (by rw [hcod, hev]; rfl) (by rw [hcod, hev]; rfl)) (by rw [← hpos, hev]) (by first | omega | (dsimp only; omega)) f6
      by_cases hsd : (48 ≤ sg T L (skp T L q) ∧ sg T L (skp T L q) ≤ 55) ∨ sg T L (skp T L q) = 33
      · generalize hsv : senV (sg T L (skp T L q)) = sv
        have hsr : (sg T L (skp T L q) = 33 ∧ sv = 9) ∨ (sg T L (skp T L q) ≠ 33 ∧ sv = sg T L (skp T L q) - 48) := by
          rw [← hsv]; unfold senV figV; rw [if_neg h46]; split
          · left; exact ⟨by assumption, rfl⟩
          · right; rw [if_pos (by omega)]; exact ⟨by assumption, rfl⟩
        refine Go_istore d_T_parse_36 rfl sa3 ?_
        refine Go_iload d_T_parse_37 lg3 ?_
        refine Go_const d_T_parse_38 ?_
        refine Go_icmp_ne d_T_parse_40 (by omega) (by omega) (fun h40 => ?_) (fun h40 => absurd h40 (by omega))
        refine Go_const d_T_parse_45 ?_
        refine Go_istore d_T_parse_46 rfl sa4 ?_
        refine Go_iload d_T_parse_48 lg3 ?_
        refine Go_const d_T_parse_49 ?_
        refine Go_icmp_eq d_T_parse_50 (by omega) (by omega) (fun h50 => absurd h50 (by omega)) (fun h50 => ?_)
        refine Go_aload d_T_parse_53 lg0 ⟨_, rfl⟩ ?_
        refine Go_iload d_T_parse_54 lg1 ?_
        refine Go_const d_T_parse_55 ?_
        refine Go_iadd d_T_parse_56 ?_
        refine Go_V1p d_T_parse_57 kT (c_T_skipBlanks (skp T L q + 1) (by omega) g0 g1 hT) (Nat.le_of_ble_eq_true rfl) ?_
        refine Go_istore d_T_parse_60 rfl sa1 ?_
        obtain ⟨c1, c2, c3⟩ := skp_rg (T := T) (L := L) (p := skp T L q + 1) (by omega)
        have s2 := sg_rg hT (show 0 ≤ skp T L (skp T L q + 1) by omega)
        refine Go_aload d_T_parse_61 lg0 ⟨_, rfl⟩ ?_
        refine Go_iload d_T_parse_62 lg1 ?_
        refine Go_V1p d_T_parse_63 kT (c_T_signAt _ (by omega) g0 g1 hT) (Nat.le_of_ble_eq_true rfl) ?_
        refine Go_const d_T_parse_66 ?_
        refine Go_icmp_eq d_T_parse_68 (by omega) (by omega) (fun h68 => ?_) (fun h68 => ?_)
        · refine Go_aload d_T_parse_73 lg0 ⟨_, rfl⟩ ?_
          refine Go_iload d_T_parse_74 lg1 ?_
          refine Go_const d_T_parse_75 ?_
          refine Go_iadd d_T_parse_76 ?_
          refine Go_V1p d_T_parse_77 kT (c_T_skipBlanks (skp T L (skp T L q + 1) + 1) (by omega) g0 g1 hT) (Nat.le_of_ble_eq_true rfl) ?_
          refine Go_istore d_T_parse_80 rfl sa1 ?_
          obtain ⟨d1, d2, d3⟩ := skp_rg (T := T) (L := L) (p := skp T L (skp T L q + 1) + 1) (by omega)
          have s3 := sg_rg hT (show 0 ≤ skp T L (skp T L (skp T L q + 1) + 1) by omega)
          have hfg : (48 ≤ sg T L (skp T L (skp T L (skp T L q + 1) + 1)) ∧ sg T L (skp T L (skp T L (skp T L q + 1) + 1)) ≤ 55 ∧ figV (sg T L (skp T L (skp T L (skp T L q + 1) + 1))) = sg T L (skp T L (skp T L (skp T L q + 1) + 1)) - 48) ∨ (¬ (48 ≤ sg T L (skp T L (skp T L (skp T L q + 1) + 1)) ∧ sg T L (skp T L (skp T L (skp T L q + 1) + 1)) ≤ 55) ∧ figV (sg T L (skp T L (skp T L (skp T L q + 1) + 1))) = -4) := by unfold figV; split <;> omega
          refine Go_aload d_T_parse_81 lg0 ⟨_, rfl⟩ ?_
          refine Go_iload d_T_parse_82 lg1 ?_
          refine Go_V1p d_T_parse_83 kT (c_T_figureAt _ (by omega) g0 g1 hT) (Nat.le_of_ble_eq_true rfl) ?_
          refine Go_istore d_T_parse_86 rfl sa4 ?_
          refine Go_iload d_T_parse_88 lg4 ?_
          refine Go_const d_T_parse_90 ?_
          refine Go_icmp_ne d_T_parse_92 (by omega) (by omega) (fun h92 => ?_) (fun h92 => ?_)
          · refine Go_aload d_T_parse_97 lg0 ⟨_, rfl⟩ ?_
            refine Go_get d_T_parse_98 ft_2 ?_
            refine Go_iload d_T_parse_101 lg2 ?_
            refine Go_iload d_T_parse_102 lg3 ?_
            refine Go_iast d_T_parse_103 at_2 (by omega) ?_
            refine Go_aload d_T_parse_104 lg0 ⟨_, rfl⟩ ?_
            refine Go_get d_T_parse_105 ft_3 ?_
            refine Go_iload d_T_parse_108 lg2 ?_
            refine Go_iload d_T_parse_109 lg4 ?_
            refine Go_iast d_T_parse_111 at_3 (by omega) ?_
            refine Go_aload d_T_parse_112 lg0 ⟨_, rfl⟩ ?_
            refine Go_iload d_T_parse_113 lg2 ?_
            refine Go_const d_T_parse_114 ?_
            refine Go_iadd d_T_parse_115 ?_
            refine Go_put d_T_parse_116 (wt_4 _) rfl rfl ?_
            show Go G k_T_parse 119 _ _ (evS S1 e sv (figV (sg T L (skp T L (skp T L (skp T L q + 1) + 1))))) _
            refine Go_aload d_T_parse_119 lg0 ⟨_, rfl⟩ ?_
            refine Go_iload d_T_parse_120 lg1 ?_
            refine Go_const d_T_parse_121 ?_
            refine Go_iadd d_T_parse_122 ?_
            refine Go_V1p d_T_parse_123 kT (c_T_skipBlanks (skp T L (skp T L (skp T L q + 1) + 1) + 1) (by omega) (by rw [evS_0]; exact g0) (by rw [evS_1]; exact g1) hT) (Nat.le_of_ble_eq_true rfl) ?_
            refine Go_istore d_T_parse_126 rfl sa1 ?_
            refine Go_iinc d_T_parse_127 lg2 rfl sa2 ?_
            refine Go_goto d_T_parse_130 ?_
            have hev := evF_ok h46 hsd h68 ⟨by omega, by omega⟩
            rw [if_neg (by omega), hev, if_neg (show ¬ (_ : Int) < 0 by split <;> omega)] at f6
            refine ih _ _ _ _ ⟨by rw [evS_0]; exact f1.1, by rw [evS_1]; exact f1.2.1, fun c hc => by rw [evS_c hc]; exact f1.2.2 c hc⟩ (evS_4 _ _ _ _) (f3.ev h0 (by rw [hcod, hev]; unfold sndC; split <;> omega) (by rw [hcod, hev]; unfold rcvC; split <;> omega)) (by rw [← hpos, hev]) (by first | omega | (dsimp only; omega)) f6
          · refine Go_iload d_T_parse_95 lg1 ?_
            refine Go_iretI d_T_parse_96 ⟨f1, Or.inl ?_⟩
            rw [if_neg (by omega), evF_n3 h46 hsd h68 (by omega), if_pos (show (-1 : Int) < 0 by decide)] at f6
            rw [← f6]
            exact ⟨rfl, rfl⟩
        · refine Go_iload d_T_parse_71 lg1 ?_
          refine Go_iretI d_T_parse_72 ⟨f1, Or.inl ?_⟩
          rw [if_neg (by omega), evF_n2 h46 hsd h68, if_pos (show (-1 : Int) < 0 by decide)] at f6
          rw [← f6]
          exact ⟨rfl, rfl⟩
      · have hno := hsd
        rw [show senV (sg T L (skp T L q)) = -4 by unfold senV figV; rw [if_neg h46, if_neg (by omega), if_neg (by omega)]]
        refine Go_istore d_T_parse_36 rfl sa3 ?_
        refine Go_iload d_T_parse_37 lg3 ?_
        refine Go_const d_T_parse_38 ?_
        refine Go_icmp_ne d_T_parse_40 (by decide) (by decide) (fun h40 => absurd h40 (by decide)) (fun h40 => ?_)
        refine Go_iload d_T_parse_43 lg1 ?_
        refine Go_iretI d_T_parse_44 ⟨f1, Or.inl ?_⟩
        rw [if_neg (by omega), evF_n1 h46 hno, if_pos (show (-1 : Int) < 0 by decide)] at f6
        rw [← f6]
        exact ⟨rfl, rfl⟩
    · refine Go_iload d_T_parse_27 lg2 ?_
      refine Go_if_ne d_T_parse_28 (by omega) (fun h28 => ?_) (fun h28 => ?_)
      · refine Go_const d_T_parse_133 ?_
        refine Go_iretI d_T_parse_134 ⟨f1, Or.inr ?_⟩
        rw [if_pos ⟨by omega, by omega⟩] at f6
        rw [← f6]
        exact ⟨rfl, rfl, f2, f3⟩
      · have hnn : ¬ (e ≠ 0 ∧ L ≤ skp T L q) := by omega
        refine Go_aload d_T_parse_31 lg0 ⟨_, rfl⟩ ?_
        refine Go_iload d_T_parse_32 lg1 ?_
        refine Go_V1p d_T_parse_33 kT (c_T_senderAt _ (by omega) g0 g1 hT) (Nat.le_of_ble_eq_true rfl) ?_
        by_cases h46 : sg T L (skp T L q) = 46
        · rw [show senV (sg T L (skp T L q)) = -1 by unfold senV; rw [if_pos h46]]
          refine Go_istore d_T_parse_36 rfl sa3 ?_
          refine Go_iload d_T_parse_37 lg3 ?_
          refine Go_const d_T_parse_38 ?_
          refine Go_icmp_ne d_T_parse_40 (by decide) (by decide) (fun h40 => ?_) (fun h40 => absurd h40 (by decide))
          refine Go_const d_T_parse_45 ?_
          refine Go_istore d_T_parse_46 rfl sa4 ?_
          refine Go_iload d_T_parse_48 lg3 ?_
          refine Go_const d_T_parse_49 ?_
          refine Go_icmp_eq d_T_parse_50 (by decide) (by decide) (fun h50 => ?_) (fun h50 => absurd h50 (by decide))
          refine Go_aload d_T_parse_97 lg0 ⟨_, rfl⟩ ?_
          refine Go_get d_T_parse_98 ft_2 ?_
          refine Go_iload d_T_parse_101 lg2 ?_
          refine Go_iload d_T_parse_102 lg3 ?_
          refine Go_iast d_T_parse_103 at_2 (by omega) ?_
          refine Go_aload d_T_parse_104 lg0 ⟨_, rfl⟩ ?_
          refine Go_get d_T_parse_105 ft_3 ?_
          refine Go_iload d_T_parse_108 lg2 ?_
          refine Go_iload d_T_parse_109 lg4 ?_
          refine Go_iast d_T_parse_111 at_3 (by omega) ?_
          refine Go_aload d_T_parse_112 lg0 ⟨_, rfl⟩ ?_
          refine Go_iload d_T_parse_113 lg2 ?_
          refine Go_const d_T_parse_114 ?_
          refine Go_iadd d_T_parse_115 ?_
          refine Go_put d_T_parse_116 (wt_4 _) rfl rfl ?_
          show Go G k_T_parse 119 _ _ (evS S1 e (-1) 0) _
          refine Go_aload d_T_parse_119 lg0 ⟨_, rfl⟩ ?_
          refine Go_iload d_T_parse_120 lg1 ?_
          refine Go_const d_T_parse_121 ?_
          refine Go_iadd d_T_parse_122 ?_
          refine Go_V1p d_T_parse_123 kT (c_T_skipBlanks (skp T L q + 1) (by omega) (by rw [evS_0]; exact g0) (by rw [evS_1]; exact g1) hT) (Nat.le_of_ble_eq_true rfl) ?_
          refine Go_istore d_T_parse_126 rfl sa1 ?_
          refine Go_iinc d_T_parse_127 lg2 rfl sa2 ?_
          refine Go_goto d_T_parse_130 ?_
          have hev := evF_t h46
          rw [if_neg (by omega), hev, if_neg (show ¬ (99 : Int) < 0 by decide)] at f6
          refine ih _ _ _ _ ⟨by rw [evS_0]; exact f1.1, by rw [evS_1]; exact f1.2.1, fun c hc => by rw [evS_c hc]; exact f1.2.2 c hc⟩ (evS_4 _ _ _ _) (f3.ev h0 (by rw [hcod, hev]; rfl) (by rw [hcod, hev]; rfl)) (by rw [← hpos, hev]) (by first | omega | (dsimp only; omega)) f6
        by_cases hsd : (48 ≤ sg T L (skp T L q) ∧ sg T L (skp T L q) ≤ 55) ∨ sg T L (skp T L q) = 33
        · generalize hsv : senV (sg T L (skp T L q)) = sv
          have hsr : (sg T L (skp T L q) = 33 ∧ sv = 9) ∨ (sg T L (skp T L q) ≠ 33 ∧ sv = sg T L (skp T L q) - 48) := by
            rw [← hsv]; unfold senV figV; rw [if_neg h46]; split
            · left; exact ⟨by assumption, rfl⟩
            · right; rw [if_pos (by omega)]; exact ⟨by assumption, rfl⟩
          refine Go_istore d_T_parse_36 rfl sa3 ?_
          refine Go_iload d_T_parse_37 lg3 ?_
          refine Go_const d_T_parse_38 ?_
          refine Go_icmp_ne d_T_parse_40 (by omega) (by omega) (fun h40 => ?_) (fun h40 => absurd h40 (by omega))
          refine Go_const d_T_parse_45 ?_
          refine Go_istore d_T_parse_46 rfl sa4 ?_
          refine Go_iload d_T_parse_48 lg3 ?_
          refine Go_const d_T_parse_49 ?_
          refine Go_icmp_eq d_T_parse_50 (by omega) (by omega) (fun h50 => absurd h50 (by omega)) (fun h50 => ?_)
          refine Go_aload d_T_parse_53 lg0 ⟨_, rfl⟩ ?_
          refine Go_iload d_T_parse_54 lg1 ?_
          refine Go_const d_T_parse_55 ?_
          refine Go_iadd d_T_parse_56 ?_
          refine Go_V1p d_T_parse_57 kT (c_T_skipBlanks (skp T L q + 1) (by omega) g0 g1 hT) (Nat.le_of_ble_eq_true rfl) ?_
          refine Go_istore d_T_parse_60 rfl sa1 ?_
          obtain ⟨c1, c2, c3⟩ := skp_rg (T := T) (L := L) (p := skp T L q + 1) (by omega)
          have s2 := sg_rg hT (show 0 ≤ skp T L (skp T L q + 1) by omega)
          refine Go_aload d_T_parse_61 lg0 ⟨_, rfl⟩ ?_
          refine Go_iload d_T_parse_62 lg1 ?_
          refine Go_V1p d_T_parse_63 kT (c_T_signAt _ (by omega) g0 g1 hT) (Nat.le_of_ble_eq_true rfl) ?_
          refine Go_const d_T_parse_66 ?_
          refine Go_icmp_eq d_T_parse_68 (by omega) (by omega) (fun h68 => ?_) (fun h68 => ?_)
          · refine Go_aload d_T_parse_73 lg0 ⟨_, rfl⟩ ?_
            refine Go_iload d_T_parse_74 lg1 ?_
            refine Go_const d_T_parse_75 ?_
            refine Go_iadd d_T_parse_76 ?_
            refine Go_V1p d_T_parse_77 kT (c_T_skipBlanks (skp T L (skp T L q + 1) + 1) (by omega) g0 g1 hT) (Nat.le_of_ble_eq_true rfl) ?_
            refine Go_istore d_T_parse_80 rfl sa1 ?_
            obtain ⟨d1, d2, d3⟩ := skp_rg (T := T) (L := L) (p := skp T L (skp T L q + 1) + 1) (by omega)
            have s3 := sg_rg hT (show 0 ≤ skp T L (skp T L (skp T L q + 1) + 1) by omega)
            have hfg : (48 ≤ sg T L (skp T L (skp T L (skp T L q + 1) + 1)) ∧ sg T L (skp T L (skp T L (skp T L q + 1) + 1)) ≤ 55 ∧ figV (sg T L (skp T L (skp T L (skp T L q + 1) + 1))) = sg T L (skp T L (skp T L (skp T L q + 1) + 1)) - 48) ∨ (¬ (48 ≤ sg T L (skp T L (skp T L (skp T L q + 1) + 1)) ∧ sg T L (skp T L (skp T L (skp T L q + 1) + 1)) ≤ 55) ∧ figV (sg T L (skp T L (skp T L (skp T L q + 1) + 1))) = -4) := by unfold figV; split <;> omega
            refine Go_aload d_T_parse_81 lg0 ⟨_, rfl⟩ ?_
            refine Go_iload d_T_parse_82 lg1 ?_
            refine Go_V1p d_T_parse_83 kT (c_T_figureAt _ (by omega) g0 g1 hT) (Nat.le_of_ble_eq_true rfl) ?_
            refine Go_istore d_T_parse_86 rfl sa4 ?_
            refine Go_iload d_T_parse_88 lg4 ?_
            refine Go_const d_T_parse_90 ?_
            refine Go_icmp_ne d_T_parse_92 (by omega) (by omega) (fun h92 => ?_) (fun h92 => ?_)
            · refine Go_aload d_T_parse_97 lg0 ⟨_, rfl⟩ ?_
              refine Go_get d_T_parse_98 ft_2 ?_
              refine Go_iload d_T_parse_101 lg2 ?_
              refine Go_iload d_T_parse_102 lg3 ?_
              refine Go_iast d_T_parse_103 at_2 (by omega) ?_
              refine Go_aload d_T_parse_104 lg0 ⟨_, rfl⟩ ?_
              refine Go_get d_T_parse_105 ft_3 ?_
              refine Go_iload d_T_parse_108 lg2 ?_
              refine Go_iload d_T_parse_109 lg4 ?_
              refine Go_iast d_T_parse_111 at_3 (by omega) ?_
              refine Go_aload d_T_parse_112 lg0 ⟨_, rfl⟩ ?_
              refine Go_iload d_T_parse_113 lg2 ?_
              refine Go_const d_T_parse_114 ?_
              refine Go_iadd d_T_parse_115 ?_
              refine Go_put d_T_parse_116 (wt_4 _) rfl rfl ?_
              show Go G k_T_parse 119 _ _ (evS S1 e sv (figV (sg T L (skp T L (skp T L (skp T L q + 1) + 1))))) _
              refine Go_aload d_T_parse_119 lg0 ⟨_, rfl⟩ ?_
              refine Go_iload d_T_parse_120 lg1 ?_
              refine Go_const d_T_parse_121 ?_
              refine Go_iadd d_T_parse_122 ?_
              refine Go_V1p d_T_parse_123 kT (c_T_skipBlanks (skp T L (skp T L (skp T L q + 1) + 1) + 1) (by omega) (by rw [evS_0]; exact g0) (by rw [evS_1]; exact g1) hT) (Nat.le_of_ble_eq_true rfl) ?_
              refine Go_istore d_T_parse_126 rfl sa1 ?_
              refine Go_iinc d_T_parse_127 lg2 rfl sa2 ?_
              refine Go_goto d_T_parse_130 ?_
              have hev := evF_ok h46 hsd h68 ⟨by omega, by omega⟩
              rw [if_neg (by omega), hev, if_neg (show ¬ (_ : Int) < 0 by split <;> omega)] at f6
              refine ih _ _ _ _ ⟨by rw [evS_0]; exact f1.1, by rw [evS_1]; exact f1.2.1, fun c hc => by rw [evS_c hc]; exact f1.2.2 c hc⟩ (evS_4 _ _ _ _) (f3.ev h0 (by rw [hcod, hev]; unfold sndC; split <;> omega) (by rw [hcod, hev]; unfold rcvC; split <;> omega)) (by rw [← hpos, hev]) (by first | omega | (dsimp only; omega)) f6
            · refine Go_iload d_T_parse_95 lg1 ?_
              refine Go_iretI d_T_parse_96 ⟨f1, Or.inl ?_⟩
              rw [if_neg (by omega), evF_n3 h46 hsd h68 (by omega), if_pos (show (-1 : Int) < 0 by decide)] at f6
              rw [← f6]
              exact ⟨rfl, rfl⟩
          · refine Go_iload d_T_parse_71 lg1 ?_
            refine Go_iretI d_T_parse_72 ⟨f1, Or.inl ?_⟩
            rw [if_neg (by omega), evF_n2 h46 hsd h68, if_pos (show (-1 : Int) < 0 by decide)] at f6
            rw [← f6]
            exact ⟨rfl, rfl⟩
        · have hno := hsd
          rw [show senV (sg T L (skp T L q)) = -4 by unfold senV figV; rw [if_neg h46, if_neg (by omega), if_neg (by omega)]]
          refine Go_istore d_T_parse_36 rfl sa3 ?_
          refine Go_iload d_T_parse_37 lg3 ?_
          refine Go_const d_T_parse_38 ?_
          refine Go_icmp_ne d_T_parse_40 (by decide) (by decide) (fun h40 => absurd h40 (by decide)) (fun h40 => ?_)
          refine Go_iload d_T_parse_43 lg1 ?_
          refine Go_iretI d_T_parse_44 ⟨f1, Or.inl ?_⟩
          rw [if_neg (by omega), evF_n1 h46 hno, if_pos (show (-1 : Int) < 0 by decide)] at f6
          rw [← f6]
          exact ⟨rfl, rfl⟩
end Tape
