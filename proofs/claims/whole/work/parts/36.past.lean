/-! ===== rows alike in what counts ===== -/
theorem lf402 {N N' : Row} (h : ∀ x, x < 402 → N' x = N x) {i v : Int} (hi : 0 ≤ i ∧ i < 79) (hv : 0 ≤ v ∧ v < 5) : lf N' i v = lf N i v := h _ (by omega)
theorem BR.eq402 {B : Bk} {N N' : Row} (hB : BR B N) (h : ∀ x, x < 402 → N' x = N x) (h5 : 0 ≤ N 5 ∧ N 5 ≤ 79) : BR B N' := by
  have e : ∀ k : Nat, k < 7 → N' k = N k := fun k hk => h k (by omega)
  have el : ∀ i v : Int, 0 ≤ i → i < N 5 → 0 ≤ v → v < 5 → lf N' i v = lf N i v := fun i v a b c d => lf402 h ⟨a, by omega⟩ ⟨c, d⟩
  have e5 := e 5 (by decide)
  have e6 := e 6 (by decide)
  have er : ∀ r v : Int, rof N' r v (N 5).toNat = rof N r v (N 5).toNat := fun r v => by
    rw [rof_cP, rof_cP]
    refine cP_ext (fun i a b => ?_)
    unfold rofP wasP
    rw [el i 0 a (by omega) (by decide) (by decide), el i 2 a (by omega) (by decide) (by decide), el i 3 a (by omega) (by decide) (by decide)]
  have eo : ∀ r k : Int, lout N' r k (N 5).toNat = lout N r k (N 5).toNat := fun r k => lout_ext (fun i a b => by rw [el i 3 a (by omega) (by decide) (by decide), el i 4 a (by omega) (by decide) (by decide)])
  have ec : cnt N' (N 5).toNat = cnt N (N 5).toNat := cnt_ext (fun i hi => by rw [el i 3 (by omega) (by omega) (by decide) (by decide)])
  have es : ∀ k : Int, sat N' k (N 5).toNat = sat N k (N 5).toNat := fun k => sat_ext (fun i hi => by rw [el i 3 (by omega) (by omega) (by decide) (by decide)])
  obtain ⟨a1, ⟨a2, a3, a4, a5⟩, a6, a7, a8, a9⟩ := hB
  unfold BR
  rw [e5, e6, ec, e 4 (by decide)]
  refine ⟨fun k hk => by rw [e k (by omega)]; exact a1 k hk, ⟨a2, a3, a4, a5⟩, fun i a b => ?_, fun k a b => by rw [es]; exact a7 k a b, fun r v b1 b2 b3 b4 => by rw [er]; exact a8 r v b1 b2 b3 b4, fun r k b1 b2 b3 b4 => ?_⟩
  · rw [el i 0 a b (by decide) (by decide), el i 1 a b (by decide) (by decide), el i 2 a b (by decide) (by decide), el i 3 a b (by decide) (by decide), el i 4 a b (by decide) (by decide)]
    exact a6 i a b
  · rw [er] at b4
    rw [eo]
    exact a9 r k b1 b2 b3 b4
theorem WF.eq402 {N N' : Row} (hW : WF N) (h : ∀ x, x < 402 → N' x = N x) (hr : ∀ k, -2147483648 ≤ N' k ∧ N' k < 2147483648) : WF N' := by
  obtain ⟨⟨-, i0, i1, i2, i3, i4, i5, i6⟩, c1, c2, c3⟩ := hW
  have e : ∀ k : Nat, k < 7 → N' k = N k := fun k hk => h k (by omega)
  have el : ∀ i v : Int, 0 ≤ i → i < N 5 → 0 ≤ v → v < 5 → lf N' i v = lf N i v := fun i v a b c d => lf402 h ⟨a, by omega⟩ ⟨c, d⟩
  have e5 := e 5 (by decide)
  have e6 := e 6 (by decide)
  have er : ∀ r v : Int, rof N' r v (N 5).toNat = rof N r v (N 5).toNat := fun r v => by
    rw [rof_cP, rof_cP]
    refine cP_ext (fun i a b => ?_)
    unfold rofP wasP
    rw [el i 0 a (by omega) (by decide) (by decide), el i 2 a (by omega) (by decide) (by decide), el i 3 a (by omega) (by decide) (by decide)]
  refine ⟨⟨hr, ?_, ?_, ?_, ?_, ?_, ?_, ?_⟩, ?_, fun i a b => ?_, fun r a b => ?_⟩
  · rw [e 0 (by decide)]; exact i0
  · rw [e 1 (by decide)]; exact i1
  · rw [e 2 (by decide)]; exact i2
  · rw [e 3 (by decide)]; exact i3
  · rw [e 4 (by decide)]; exact i4
  · rw [e5]; exact i5
  · rw [e6]; exact i6
  · rw [e5, cnt_ext (N := N) (fun i hi => by rw [el i 3 (by omega) (by omega) (by decide) (by decide)])]; exact c1
  · rw [e5] at b
    exact (c2 i a b).ext (fun v v1 v2 => el i v a b v1 v2) e6 (fun r _ _ => by rw [e5, er])
  · rw [e6] at b
    rw [e5, er, er]
    exact c3 r a b
/-- row k of the rows ahead -/
def rowA (A : Row) (k : Int) : Row := fun x => A ((402 * k).toNat + x)
/-- a Past tells the rows ahead -/
def PR (S : St) (p : Nat) (A : Row) : Prop := (0 ≤ S p 1 0 ∧ S p 1 0 ≤ 5) ∧ (0 ≤ S p 2 0 ∧ S p 2 0 ≤ 6) ∧ ∀ k : Int, 0 ≤ k → k < S p 2 0 → BR (S (rf p ((S p 1 0 + k) % 6).toNat)) (rowA A k) ∧ WF (rowA A k)
def Rg (A : Row) : Prop := ∀ x, -2147483648 ≤ A x ∧ A x < 2147483648
theorem Rg.cp {A N : Row} (h : Rg A) (hN : Rg N) (off k : Nat) : Rg (cpR A N off k) := by
  intro x
  unfold cpR
  split
  · exact hN _
  · exact h x
theorem Rg.sh {A : Row} (h : Rg A) (k : Nat) : Rg (shR A k) := by
  intro x
  unfold shR
  split
  · exact h _
  · exact h x
theorem Rg.note {A N : Row} (h : Rg A) (hN : Rg N) (u : Int) : Rg (noteA A u N) := by
  unfold noteA
  split
  · exact (h.sh _).cp hN _ _
  · exact h.cp hN _ _
theorem rf_15 (k : Nat) : rf 15 k = 2 + k := rfl
theorem rf_16 (k : Nat) : rf 16 k = 9 + k := rfl
section Past
variable {G : GT} {S : St} {N A : Row}
theorem c_P_remember (hB : BR (S 1) N) (hW : WF N) (hP : PR S 15 A) (hA : Rg A) : Fn G k_P_remember [oR G 15, oR G 1] S (PN (fun S1 => PR S1 15 (noteA A (S 15 2 0) N) ∧ S1 15 2 0 = noteU (S 15 2 0) ∧ ∀ c, c ≠ 15 → ¬ (2 ≤ c ∧ c ≤ 7) → S1 c = S c)) := by
  obtain ⟨hr, i0, i1, i2, i3, i4, i5, i6⟩ := id hW.1
  have hW1 := hW.2.1
  obtain ⟨p1, p2, p3⟩ := id hP
  have hm : 0 ≤ (S 15 1 0 + S 15 2 0) % 6 ∧ (S 15 1 0 + S 15 2 0) % 6 < 6 := by omega
  have ht : 1 ≤ rf 15 ((S 15 1 0 + S 15 2 0) % 6).toNat ∧ rf 15 ((S 15 1 0 + S 15 2 0) % 6).toNat ≤ 14 := by rw [rf_15]; omega
  have hte : rf 15 ((S 15 1 0 + S 15 2 0) % 6).toNat = 2 + ((S 15 1 0 + S 15 2 0) % 6).toNat := rf_15 _
  have hB2 : BR (becB (S (rf 15 ((S 15 1 0 + S 15 2 0) % 6).toNat)) (S 1)) N := hB.bec i5.1 i6.1
  generalize htt : rf 15 ((S 15 1 0 + S 15 2 0) % 6).toNat = t at ht hte hB2
  generalize hbb : becB (S t) (S 1) = B2 at hB2
  have e1 : sB S t B2 15 1 0 = S 15 1 0 := by rw [sB_c (by omega)]
  have e2 : sB S t B2 15 2 0 = S 15 2 0 := by rw [sB_c (by omega)]
  have hRN := hA.note hr (S 15 2 0)
  refine Fn.of [some (oR G 15), some (oR G 1)] 0 rfl (by decide +kernel) rfl (Nat.le_of_ble_eq_true rfl) (by decide) ?_
  refine Go_aload d_P_remember_0 lg0 ⟨_, rfl⟩ ?_
  refine Go_get d_P_remember_1 (fp_0 (by first | assumption | decide | omega)) ?_
  refine Go_aload d_P_remember_4 lg0 ⟨_, rfl⟩ ?_
  refine Go_get d_P_remember_5 (fp_1 (by first | assumption | decide | omega)) ?_
  refine Go_aload d_P_remember_8 lg0 ⟨_, rfl⟩ ?_
  refine Go_get d_P_remember_9 (fp_2 (by first | assumption | decide | omega)) ?_
  refine Go_iadd d_P_remember_12 ?_
  refine Go_const d_P_remember_13 ?_
  refine Go_irem d_P_remember_15 (by omega) (by omega) ?_
  refine Go_aald d_P_remember_16 (aap (by first | assumption | decide | omega)) (by omega) ?_
  rw [htt]
  refine Go_aload d_P_remember_17 lg1 ⟨_, rfl⟩ ?_
  refine Go_V1n d_P_remember_18 (kB (by first | assumption | decide | omega)) (c_B_become (N := N) (by omega) (by decide) (by omega) hB hW.1 (by omega)) (Nat.le_of_ble_eq_true rfl) ?_
  rintro S1 rfl
  rw [hbb]
  refine Go_aload d_P_remember_21 lg0 ⟨_, rfl⟩ ?_
  refine Go_get d_P_remember_22 (fp_2 (by first | assumption | decide | omega)) ?_
  refine Go_const d_P_remember_25 ?_
  refine Go_icmp_ge d_P_remember_27 (by rw [e2]; omega) (by omega) (fun h27 => ?_) (fun h27 => ?_)
  · refine Go_aload d_P_remember_43 lg0 ⟨_, rfl⟩ ?_
    refine Go_aload d_P_remember_44 lg0 ⟨_, rfl⟩ ?_
    refine Go_get d_P_remember_45 (fp_1 (by first | assumption | decide | omega)) ?_
    refine Go_const d_P_remember_48 ?_
    refine Go_iadd d_P_remember_49 ?_
    refine Go_const d_P_remember_50 ?_
    refine Go_irem d_P_remember_52 (by rw [e1]; omega) (by omega) ?_
    refine Go_put d_P_remember_53 (wp_1 (by first | assumption | decide | omega) _) rfl rfl ?_
    rw [e2] at h27
    first
      | (refine Go_vretN d_P_remember_56 ⟨?_, ?_, fun c c1 c2 => by rw [st3_sB, sB_c (fun q => c1 q), sB_c (by omega)]⟩
         · have f1 : st3 (sB S t B2) 15 2 0 (sB S t B2 15 2 0 + 1) 15 1 0 = S 15 1 0 := by rw [st3_j (by decide), e1]
           have f2 : st3 (sB S t B2) 15 2 0 (sB S t B2 15 2 0 + 1) 15 2 0 = S 15 2 0 + 1 := by rw [st3_s, e2]
           have fc : ∀ c, c ≠ 15 → st3 (sB S t B2) 15 2 0 (sB S t B2 15 2 0 + 1) c = sB S t B2 c := fun c hc => by rw [st3_sB, sB_c hc]
           unfold PR
           rw [f1, f2]
           refine ⟨p1, by omega, fun k h0 h1 => ?_⟩
           have hk6 : 0 ≤ (S 15 1 0 + k) % 6 ∧ (S 15 1 0 + k) % 6 < 6 := by omega
           rw [fc _ (by rw [rf_15]; omega)]
           unfold noteA at hRN ⊢
           rw [if_neg (by omega)] at hRN ⊢
           by_cases hk : k = S 15 2 0
           · have ex : ∀ x, x < 402 → rowA (cpR A N (402 * S 15 2 0).toNat 402) k x = N x := fun x hx => by
               unfold rowA cpR
               rw [if_pos (by omega), show (402 * k).toNat + x - (402 * S 15 2 0).toNat = x by omega]
             rw [hk, htt, sB_s]
             rw [hk] at ex
             exact ⟨hB2.eq402 ex i5, hW.eq402 ex (fun x => hRN _)⟩
           · have ex : ∀ x, x < 402 → rowA (cpR A N (402 * S 15 2 0).toNat 402) k x = rowA A k x := fun x hx => by
               unfold rowA cpR
               rw [if_neg (by omega)]
             obtain ⟨z1, z2⟩ := p3 k h0 (by omega)
             rw [sB_c (by rw [rf_15, hte]; omega)]
             exact ⟨z1.eq402 ex z2.1.2.2.2.2.2.2.1, z2.eq402 ex (fun x => hRN _)⟩
         · rw [st3_s, e2]; unfold noteU; rw [if_neg (by omega)])
      | (have hu : S 15 2 0 = 6 := by omega
         refine Go_vretN d_P_remember_56 ⟨?_, ?_, fun c c1 c2 => by rw [st3_sB, sB_c (fun q => c1 q), sB_c (by omega)]⟩
         · have f1 : st3 (sB S t B2) 15 1 0 ((sB S t B2 15 1 0 + 1) % 6) 15 1 0 = (S 15 1 0 + 1) % 6 := by rw [st3_s, e1]
           have f2 : st3 (sB S t B2) 15 1 0 ((sB S t B2 15 1 0 + 1) % 6) 15 2 0 = 6 := by rw [st3_j (by decide), e2, hu]
           have fc : ∀ c, c ≠ 15 → st3 (sB S t B2) 15 1 0 ((sB S t B2 15 1 0 + 1) % 6) c = sB S t B2 c := fun c hc => by rw [st3_sB, sB_c hc]
           unfold PR
           rw [f1, f2]
           refine ⟨by omega, by omega, fun k h0 h1 => ?_⟩
           have hk6 : 0 ≤ ((S 15 1 0 + 1) % 6 + k) % 6 ∧ ((S 15 1 0 + 1) % 6 + k) % 6 < 6 := by omega
           rw [fc _ (by rw [rf_15]; omega)]
           unfold noteA at hRN ⊢
           rw [if_pos hu] at hRN ⊢
           by_cases hk : k = 5
           · have ex : ∀ x, x < 402 → rowA (cpR (shR A 2010) N 2010 402) k x = N x := fun x hx => by
               unfold rowA cpR
               rw [if_pos (by omega), show (402 * k).toNat + x - 2010 = x by omega]
             have ei : rf 15 (((S 15 1 0 + 1) % 6 + k) % 6).toNat = t := by rw [rf_15, hte]; omega
             rw [ei, sB_s]
             exact ⟨hB2.eq402 ex i5, hW.eq402 ex (fun x => hRN _)⟩
           · have ex : ∀ x, x < 402 → rowA (cpR (shR A 2010) N 2010 402) k x = rowA A (k + 1) x := fun x hx => by
               unfold rowA cpR shR
               rw [if_neg (by omega), if_pos (by omega), show (402 * k).toNat + x + 402 = (402 * (k + 1)).toNat + x by omega]
             obtain ⟨z1, z2⟩ := p3 (k + 1) (by omega) (by omega)
             have ei : rf 15 (((S 15 1 0 + 1) % 6 + k) % 6).toNat = rf 15 ((S 15 1 0 + (k + 1)) % 6).toNat := by rw [rf_15, rf_15]; omega
             rw [sB_c (by rw [rf_15, hte]; omega), ei]
             exact ⟨z1.eq402 ex z2.1.2.2.2.2.2.2.1, z2.eq402 ex (fun x => hRN _)⟩
         · rw [st3_j (by decide), e2]; unfold noteU; rw [if_pos hu, hu])
  · refine Go_aload d_P_remember_30 lg0 ⟨_, rfl⟩ ?_
    refine Go_dup d_P_remember_31 rfl ?_
    refine Go_get d_P_remember_32 (fp_2 (by first | assumption | decide | omega)) ?_
    refine Go_const d_P_remember_35 ?_
    refine Go_iadd d_P_remember_36 ?_
    refine Go_put d_P_remember_37 (wp_2 (by first | assumption | decide | omega) _) rfl rfl ?_
    refine Go_goto d_P_remember_40 ?_
    rw [e2] at h27
    first
      | (refine Go_vretN d_P_remember_56 ⟨?_, ?_, fun c c1 c2 => by rw [st3_sB, sB_c (fun q => c1 q), sB_c (by omega)]⟩
         · have f1 : st3 (sB S t B2) 15 2 0 (sB S t B2 15 2 0 + 1) 15 1 0 = S 15 1 0 := by rw [st3_j (by decide), e1]
           have f2 : st3 (sB S t B2) 15 2 0 (sB S t B2 15 2 0 + 1) 15 2 0 = S 15 2 0 + 1 := by rw [st3_s, e2]
           have fc : ∀ c, c ≠ 15 → st3 (sB S t B2) 15 2 0 (sB S t B2 15 2 0 + 1) c = sB S t B2 c := fun c hc => by rw [st3_sB, sB_c hc]
           unfold PR
           rw [f1, f2]
           refine ⟨p1, by omega, fun k h0 h1 => ?_⟩
           have hk6 : 0 ≤ (S 15 1 0 + k) % 6 ∧ (S 15 1 0 + k) % 6 < 6 := by omega
           rw [fc _ (by rw [rf_15]; omega)]
           unfold noteA at hRN ⊢
           rw [if_neg (by omega)] at hRN ⊢
           by_cases hk : k = S 15 2 0
           · have ex : ∀ x, x < 402 → rowA (cpR A N (402 * S 15 2 0).toNat 402) k x = N x := fun x hx => by
               unfold rowA cpR
               rw [if_pos (by omega), show (402 * k).toNat + x - (402 * S 15 2 0).toNat = x by omega]
             rw [hk, htt, sB_s]
             rw [hk] at ex
             exact ⟨hB2.eq402 ex i5, hW.eq402 ex (fun x => hRN _)⟩
           · have ex : ∀ x, x < 402 → rowA (cpR A N (402 * S 15 2 0).toNat 402) k x = rowA A k x := fun x hx => by
               unfold rowA cpR
               rw [if_neg (by omega)]
             obtain ⟨z1, z2⟩ := p3 k h0 (by omega)
             rw [sB_c (by rw [rf_15, hte]; omega)]
             exact ⟨z1.eq402 ex z2.1.2.2.2.2.2.2.1, z2.eq402 ex (fun x => hRN _)⟩
         · rw [st3_s, e2]; unfold noteU; rw [if_neg (by omega)])
      | (have hu : S 15 2 0 = 6 := by omega
         refine Go_vretN d_P_remember_56 ⟨?_, ?_, fun c c1 c2 => by rw [st3_sB, sB_c (fun q => c1 q), sB_c (by omega)]⟩
         · have f1 : st3 (sB S t B2) 15 1 0 ((sB S t B2 15 1 0 + 1) % 6) 15 1 0 = (S 15 1 0 + 1) % 6 := by rw [st3_s, e1]
           have f2 : st3 (sB S t B2) 15 1 0 ((sB S t B2 15 1 0 + 1) % 6) 15 2 0 = 6 := by rw [st3_j (by decide), e2, hu]
           have fc : ∀ c, c ≠ 15 → st3 (sB S t B2) 15 1 0 ((sB S t B2 15 1 0 + 1) % 6) c = sB S t B2 c := fun c hc => by rw [st3_sB, sB_c hc]
           unfold PR
           rw [f1, f2]
           refine ⟨by omega, by omega, fun k h0 h1 => ?_⟩
           have hk6 : 0 ≤ ((S 15 1 0 + 1) % 6 + k) % 6 ∧ ((S 15 1 0 + 1) % 6 + k) % 6 < 6 := by omega
           rw [fc _ (by rw [rf_15]; omega)]
           unfold noteA at hRN ⊢
           rw [if_pos hu] at hRN ⊢
           by_cases hk : k = 5
           · have ex : ∀ x, x < 402 → rowA (cpR (shR A 2010) N 2010 402) k x = N x := fun x hx => by
               unfold rowA cpR
               rw [if_pos (by omega), show (402 * k).toNat + x - 2010 = x by omega]
             have ei : rf 15 (((S 15 1 0 + 1) % 6 + k) % 6).toNat = t := by rw [rf_15, hte]; omega
             rw [ei, sB_s]
             exact ⟨hB2.eq402 ex i5, hW.eq402 ex (fun x => hRN _)⟩
           · have ex : ∀ x, x < 402 → rowA (cpR (shR A 2010) N 2010 402) k x = rowA A (k + 1) x := fun x hx => by
               unfold rowA cpR shR
               rw [if_neg (by omega), if_pos (by omega), show (402 * k).toNat + x + 402 = (402 * (k + 1)).toNat + x by omega]
             obtain ⟨z1, z2⟩ := p3 (k + 1) (by omega) (by omega)
             have ei : rf 15 (((S 15 1 0 + 1) % 6 + k) % 6).toNat = rf 15 ((S 15 1 0 + (k + 1)) % 6).toNat := by rw [rf_15, rf_15]; omega
             rw [sB_c (by rw [rf_15, hte]; omega), ei]
             exact ⟨z1.eq402 ex z2.1.2.2.2.2.2.2.1, z2.eq402 ex (fun x => hRN _)⟩
         · rw [st3_j (by decide), e2]; unfold noteU; rw [if_pos hu, hu])
theorem c_P_bringBack (hP : PR S 15 A) (hk : 0 < S 15 2 0) : Fn G k_P_bringBack [oR G 15, oR G 1] S (PN (fun S1 => BR (S1 1) (rowA A (S 15 2 0 - 1)) ∧ PR S1 15 A ∧ S1 15 2 0 = S 15 2 0 - 1 ∧ ∀ c, c ≠ 15 → c ≠ 1 → S1 c = S c)) := by
  obtain ⟨p1, p2, p3⟩ := id hP
  obtain ⟨z1, z2⟩ := p3 (S 15 2 0 - 1) (by omega) (by omega)
  have hm : 0 ≤ (S 15 1 0 + (S 15 2 0 - 1)) % 6 ∧ (S 15 1 0 + (S 15 2 0 - 1)) % 6 < 6 := by omega
  have ht : 1 ≤ rf 15 ((S 15 1 0 + (S 15 2 0 - 1)) % 6).toNat ∧ rf 15 ((S 15 1 0 + (S 15 2 0 - 1)) % 6).toNat ≤ 14 := by rw [rf_15]; omega
  have hte : rf 15 ((S 15 1 0 + (S 15 2 0 - 1)) % 6).toNat = 2 + ((S 15 1 0 + (S 15 2 0 - 1)) % 6).toNat := rf_15 _
  generalize htt : rf 15 ((S 15 1 0 + (S 15 2 0 - 1)) % 6).toNat = t at ht hte z1
  have e1 : st3 S 15 2 0 (S 15 2 0 - 1) 15 1 0 = S 15 1 0 := st3_j (by decide)
  have e2 : st3 S 15 2 0 (S 15 2 0 - 1) 15 2 0 = S 15 2 0 - 1 := st3_s _ _ _ _ _
  have ec : ∀ c, c ≠ 15 → st3 S 15 2 0 (S 15 2 0 - 1) c = S c := fun c hc => by rw [st3_sB, sB_c hc]
  have hN1 := z2.1.2.2.2.2.2.2
  refine Fn.of [some (oR G 15), some (oR G 1)] 0 rfl (by decide +kernel) rfl (Nat.le_of_ble_eq_true rfl) (by decide) ?_
  refine Go_aload d_P_bringBack_0 lg0 ⟨_, rfl⟩ ?_
  refine Go_get d_P_bringBack_1 (fp_2 (by first | assumption | decide | omega)) ?_
  refine Go_if_gt d_P_bringBack_4 (by omega) (fun h4 => ?_) (fun h4 => absurd h4 (by omega))
  refine Go_aload d_P_bringBack_8 lg0 ⟨_, rfl⟩ ?_
  refine Go_dup d_P_bringBack_9 rfl ?_
  refine Go_get d_P_bringBack_10 (fp_2 (by first | assumption | decide | omega)) ?_
  refine Go_const d_P_bringBack_13 ?_
  refine Go_isub d_P_bringBack_14 ?_
  refine Go_put d_P_bringBack_15 (wp_2 (by first | assumption | decide | omega) _) rfl rfl ?_
  refine Go_aload d_P_bringBack_18 lg1 ⟨_, rfl⟩ ?_
  refine Go_aload d_P_bringBack_19 lg0 ⟨_, rfl⟩ ?_
  refine Go_get d_P_bringBack_20 (fp_0 (by first | assumption | decide | omega)) ?_
  refine Go_aload d_P_bringBack_23 lg0 ⟨_, rfl⟩ ?_
  refine Go_get d_P_bringBack_24 (fp_1 (by first | assumption | decide | omega)) ?_
  rw [e1]
  refine Go_aload d_P_bringBack_27 lg0 ⟨_, rfl⟩ ?_
  refine Go_get d_P_bringBack_28 (fp_2 (by first | assumption | decide | omega)) ?_
  rw [e2]
  refine Go_iadd d_P_bringBack_31 ?_
  refine Go_const d_P_bringBack_32 ?_
  refine Go_irem d_P_bringBack_34 (by omega) (by omega) ?_
  refine Go_aald d_P_bringBack_35 (aap (by first | assumption | decide | omega)) (by omega) ?_
  rw [htt]
  refine Go_V1n d_P_bringBack_36 (kB (by first | assumption | decide | omega)) (c_B_become (S := st3 S 15 2 0 (S 15 2 0 - 1)) (N := rowA A (S 15 2 0 - 1)) (by decide) (by omega) (by omega) (by rw [ec t (by omega)]; exact z1) z2.1 (by have := z2.2.1; omega)) (Nat.le_of_ble_eq_true rfl) ?_
  rintro S1 rfl
  refine Go_vretN d_P_bringBack_39 ⟨?_, ?_, ?_, fun c c1 c2 => by rw [sB_c c2, ec c c1]⟩
  · rw [sB_s, ec t (by omega)]
    exact z1.bec hN1.1.1 hN1.2.1
  · unfold PR
    rw [sB_c (by decide), e1, e2]
    refine ⟨p1, by omega, fun k h0 h1 => ?_⟩
    have hk6 : 0 ≤ (S 15 1 0 + k) % 6 ∧ (S 15 1 0 + k) % 6 < 6 := by omega
    rw [sB_c (by rw [rf_15]; omega), ec _ (by rw [rf_15]; omega)]
    exact p3 k h0 (by omega)
  · rw [sB_c (by decide), e2]
theorem c_P_become16 (hP : PR S 15 A) : Fn G k_P_become [oR G 16, oR G 15] S (PN (fun S1 => PR S1 16 A ∧ S1 16 2 0 = S 15 2 0 ∧ ∀ c, c ≠ 16 → ¬ (9 ≤ c ∧ c ≤ 14) → S1 c = S c)) := by
  obtain ⟨p1, p2, p3⟩ := id hP
  refine Fn.of [some (oR G 16), some (oR G 15), none] 1 rfl (by decide +kernel) rfl (Nat.le_of_ble_eq_true rfl) (by decide) ?_

  have loop := loopI (fun b => ∀ S1 : St, S1 16 1 0 = 0 → S1 16 2 0 = S 15 2 0 → (∀ k : Int, 0 ≤ k → k < b → BR (S1 (rf 16 k.toNat)) (rowA A k)) → (∀ c, c ≠ 16 → ¬ (9 ≤ c ∧ c ≤ 14) → S1 c = S c) → Go G k_P_become 15 [some (oR G 16), some (oR G 15), some (vI b)] [] S1 (PN (fun S1 => PR S1 16 A ∧ S1 16 2 0 = S 15 2 0 ∧ ∀ c, c ≠ 16 → ¬ (9 ≤ c ∧ c ≤ 14) → S1 c = S c))) (S 15 2 0) ?_ ?_
  refine Go_aload d_P_become_0 lg0 ⟨_, rfl⟩ ?_
  refine Go_const d_P_become_1 ?_
  refine Go_put d_P_become_2 (wp_1 (by first | assumption | decide | omega) _) rfl rfl ?_
  refine Go_aload d_P_become_5 lg0 ⟨_, rfl⟩ ?_
  refine Go_aload d_P_become_6 lg1 ⟨_, rfl⟩ ?_
  refine Go_get d_P_become_7 (fp_2 (by first | assumption | decide | omega)) ?_
  rw [st3_c (by decide)]
  refine Go_put d_P_become_10 (wp_2 (by first | assumption | decide | omega) _) rfl rfl ?_
  refine Go_const d_P_become_13 ?_
  refine Go_istore d_P_become_14 rfl sa2 ?_
  refine loop 0 (by omega) (by omega) _ ?_ ?_ (fun k h0 h1 => by omega) (fun c c1 c2 => ?_)
  · rw [st3_j (by decide), st3_s]
  · rw [st3_s]
  · rw [st3_sB, sB_c c1, st3_sB, sB_c c1]
  · intro S1 f1 f2 f3 f4
    refine Go_iload d_P_become_15 lg2 ?_
    refine Go_aload d_P_become_16 lg0 ⟨_, rfl⟩ ?_
    refine Go_get d_P_become_17 (fp_2 (by first | assumption | decide | omega)) ?_
    refine Go_icmp_ge d_P_become_20 (by omega) (by rw [f2]; omega) (fun h20 => ?_) (fun h20 => absurd h20 (by rw [f2]; omega))
    refine Go_vretN d_P_become_52 ⟨?_, f2, f4⟩
    unfold PR
    rw [f1, f2]
    refine ⟨by omega, p2, fun k h0 h1 => ?_⟩
    have := f3 k h0 h1
    rw [show ((0 : Int) + k) % 6 = k by omega]
    exact ⟨this, (p3 k h0 h1).2⟩
  · intro b h0 h1 ih S1 f1 f2 f3 f4
    obtain ⟨z1, z2⟩ := p3 b h0 h1
    have hN1 := z2.1.2.2.2.2.2.2
    have hm : 0 ≤ (S 15 1 0 + b) % 6 ∧ (S 15 1 0 + b) % 6 < 6 := by omega
    have g1 : S1 15 = S 15 := f4 15 (by decide) (by decide)
    have ht : 1 ≤ rf 15 ((S 15 1 0 + b) % 6).toNat ∧ rf 15 ((S 15 1 0 + b) % 6).toNat ≤ 14 := by rw [rf_15]; omega
    have hte : rf 15 ((S 15 1 0 + b) % 6).toNat = 2 + ((S 15 1 0 + b) % 6).toNat := rf_15 _
    have hu : 1 ≤ rf 16 b.toNat ∧ rf 16 b.toNat ≤ 14 := by rw [rf_16]; omega
    have hue : rf 16 b.toNat = 9 + b.toNat := rf_16 _
    generalize htt : rf 15 ((S 15 1 0 + b) % 6).toNat = t at ht hte z1
    generalize huu : rf 16 b.toNat = u at hu hue
    refine Go_iload d_P_become_15 lg2 ?_
    refine Go_aload d_P_become_16 lg0 ⟨_, rfl⟩ ?_
    refine Go_get d_P_become_17 (fp_2 (by first | assumption | decide | omega)) ?_
    refine Go_icmp_ge d_P_become_20 (by omega) (by rw [f2]; omega) (fun h20 => absurd h20 (by rw [f2]; omega)) (fun h20 => ?_)
    refine Go_aload d_P_become_23 lg0 ⟨_, rfl⟩ ?_
    refine Go_get d_P_become_24 (fp_0 (by first | assumption | decide | omega)) ?_
    refine Go_iload d_P_become_27 lg2 ?_
    refine Go_aald d_P_become_28 (aap (by first | assumption | decide | omega)) (by omega) ?_
    rw [huu]
    refine Go_aload d_P_become_29 lg1 ⟨_, rfl⟩ ?_
    refine Go_get d_P_become_30 (fp_0 (by first | assumption | decide | omega)) ?_
    refine Go_aload d_P_become_33 lg1 ⟨_, rfl⟩ ?_
    refine Go_get d_P_become_34 (fp_1 (by first | assumption | decide | omega)) ?_
    rw [show S1 15 1 0 = S 15 1 0 by rw [g1]]
    refine Go_iload d_P_become_37 lg2 ?_
    refine Go_iadd d_P_become_38 ?_
    refine Go_const d_P_become_39 ?_
    refine Go_irem d_P_become_41 (by omega) (by omega) ?_
    refine Go_aald d_P_become_42 (aap (by first | assumption | decide | omega)) (by omega) ?_
    rw [htt]
    refine Go_V1n d_P_become_43 (kB (by first | assumption | decide | omega)) (c_B_become (S := S1) (N := rowA A b) hu ht (by omega) (by rw [f4 t (by omega) (by omega)]; exact z1) z2.1 (by have := z2.2.1; omega)) (Nat.le_of_ble_eq_true rfl) ?_
    rintro S2 rfl
    refine Go_iinc d_P_become_46 lg2 rfl sa2 ?_
    refine Go_goto d_P_become_49 ?_
    refine ih _ ?_ ?_ (fun k k0 k1 => ?_) (fun c c1 c2 => ?_)
    · rw [sB_c (by omega)]; exact f1
    · rw [sB_c (by omega)]; exact f2
    · by_cases hk : k = b
      · subst hk
        rw [huu, sB_s, f4 t (by omega) (by omega)]
        exact z1.bec hN1.1.1 hN1.2.1
      · rw [sB_c (by rw [rf_16, hue]; omega)]
        exact f3 k k0 (by omega)
    · rw [sB_c (by omega)]
      exact f4 c c1 c2
theorem c_P_become15 (hP : PR S 16 A) : Fn G k_P_become [oR G 15, oR G 16] S (PN (fun S1 => PR S1 15 A ∧ S1 15 2 0 = S 16 2 0 ∧ ∀ c, c ≠ 15 → ¬ (2 ≤ c ∧ c ≤ 7) → S1 c = S c)) := by
  obtain ⟨p1, p2, p3⟩ := id hP
  refine Fn.of [some (oR G 15), some (oR G 16), none] 1 rfl (by decide +kernel) rfl (Nat.le_of_ble_eq_true rfl) (by decide) ?_

  have loop := loopI (fun b => ∀ S1 : St, S1 15 1 0 = 0 → S1 15 2 0 = S 16 2 0 → (∀ k : Int, 0 ≤ k → k < b → BR (S1 (rf 15 k.toNat)) (rowA A k)) → (∀ c, c ≠ 15 → ¬ (2 ≤ c ∧ c ≤ 7) → S1 c = S c) → Go G k_P_become 15 [some (oR G 15), some (oR G 16), some (vI b)] [] S1 (PN (fun S1 => PR S1 15 A ∧ S1 15 2 0 = S 16 2 0 ∧ ∀ c, c ≠ 15 → ¬ (2 ≤ c ∧ c ≤ 7) → S1 c = S c))) (S 16 2 0) ?_ ?_
  refine Go_aload d_P_become_0 lg0 ⟨_, rfl⟩ ?_
  refine Go_const d_P_become_1 ?_
  refine Go_put d_P_become_2 (wp_1 (by first | assumption | decide | omega) _) rfl rfl ?_
  refine Go_aload d_P_become_5 lg0 ⟨_, rfl⟩ ?_
  refine Go_aload d_P_become_6 lg1 ⟨_, rfl⟩ ?_
  refine Go_get d_P_become_7 (fp_2 (by first | assumption | decide | omega)) ?_
  rw [st3_c (by decide)]
  refine Go_put d_P_become_10 (wp_2 (by first | assumption | decide | omega) _) rfl rfl ?_
  refine Go_const d_P_become_13 ?_
  refine Go_istore d_P_become_14 rfl sa2 ?_
  refine loop 0 (by omega) (by omega) _ ?_ ?_ (fun k h0 h1 => by omega) (fun c c1 c2 => ?_)
  · rw [st3_j (by decide), st3_s]
  · rw [st3_s]
  · rw [st3_sB, sB_c c1, st3_sB, sB_c c1]
  · intro S1 f1 f2 f3 f4
    refine Go_iload d_P_become_15 lg2 ?_
    refine Go_aload d_P_become_16 lg0 ⟨_, rfl⟩ ?_
    refine Go_get d_P_become_17 (fp_2 (by first | assumption | decide | omega)) ?_
    refine Go_icmp_ge d_P_become_20 (by omega) (by rw [f2]; omega) (fun h20 => ?_) (fun h20 => absurd h20 (by rw [f2]; omega))
    refine Go_vretN d_P_become_52 ⟨?_, f2, f4⟩
    unfold PR
    rw [f1, f2]
    refine ⟨by omega, p2, fun k h0 h1 => ?_⟩
    have := f3 k h0 h1
    rw [show ((0 : Int) + k) % 6 = k by omega]
    exact ⟨this, (p3 k h0 h1).2⟩
  · intro b h0 h1 ih S1 f1 f2 f3 f4
    obtain ⟨z1, z2⟩ := p3 b h0 h1
    have hN1 := z2.1.2.2.2.2.2.2
    have hm : 0 ≤ (S 16 1 0 + b) % 6 ∧ (S 16 1 0 + b) % 6 < 6 := by omega
    have g1 : S1 16 = S 16 := f4 16 (by decide) (by decide)
    have ht : 1 ≤ rf 16 ((S 16 1 0 + b) % 6).toNat ∧ rf 16 ((S 16 1 0 + b) % 6).toNat ≤ 14 := by rw [rf_16]; omega
    have hte : rf 16 ((S 16 1 0 + b) % 6).toNat = 9 + ((S 16 1 0 + b) % 6).toNat := rf_16 _
    have hu : 1 ≤ rf 15 b.toNat ∧ rf 15 b.toNat ≤ 14 := by rw [rf_15]; omega
    have hue : rf 15 b.toNat = 2 + b.toNat := rf_15 _
    generalize htt : rf 16 ((S 16 1 0 + b) % 6).toNat = t at ht hte z1
    generalize huu : rf 15 b.toNat = u at hu hue
    refine Go_iload d_P_become_15 lg2 ?_
    refine Go_aload d_P_become_16 lg0 ⟨_, rfl⟩ ?_
    refine Go_get d_P_become_17 (fp_2 (by first | assumption | decide | omega)) ?_
    refine Go_icmp_ge d_P_become_20 (by omega) (by rw [f2]; omega) (fun h20 => absurd h20 (by rw [f2]; omega)) (fun h20 => ?_)
    refine Go_aload d_P_become_23 lg0 ⟨_, rfl⟩ ?_
    refine Go_get d_P_become_24 (fp_0 (by first | assumption | decide | omega)) ?_
    refine Go_iload d_P_become_27 lg2 ?_
    refine Go_aald d_P_become_28 (aap (by first | assumption | decide | omega)) (by omega) ?_
    rw [huu]
    refine Go_aload d_P_become_29 lg1 ⟨_, rfl⟩ ?_
    refine Go_get d_P_become_30 (fp_0 (by first | assumption | decide | omega)) ?_
    refine Go_aload d_P_become_33 lg1 ⟨_, rfl⟩ ?_
    refine Go_get d_P_become_34 (fp_1 (by first | assumption | decide | omega)) ?_
    rw [show S1 16 1 0 = S 16 1 0 by rw [g1]]
    refine Go_iload d_P_become_37 lg2 ?_
    refine Go_iadd d_P_become_38 ?_
    refine Go_const d_P_become_39 ?_
    refine Go_irem d_P_become_41 (by omega) (by omega) ?_
    refine Go_aald d_P_become_42 (aap (by first | assumption | decide | omega)) (by omega) ?_
    rw [htt]
    refine Go_V1n d_P_become_43 (kB (by first | assumption | decide | omega)) (c_B_become (S := S1) (N := rowA A b) hu ht (by omega) (by rw [f4 t (by omega) (by omega)]; exact z1) z2.1 (by have := z2.2.1; omega)) (Nat.le_of_ble_eq_true rfl) ?_
    rintro S2 rfl
    refine Go_iinc d_P_become_46 lg2 rfl sa2 ?_
    refine Go_goto d_P_become_49 ?_
    refine ih _ ?_ ?_ (fun k k0 k1 => ?_) (fun c c1 c2 => ?_)
    · rw [sB_c (by omega)]; exact f1
    · rw [sB_c (by omega)]; exact f2
    · by_cases hk : k = b
      · subst hk
        rw [huu, sB_s, f4 t (by omega) (by omega)]
        exact z1.bec hN1.1.1 hN1.2.1
      · rw [sB_c (by rw [rf_15, hue]; omega)]
        exact f3 k k0 (by omega)
    · rw [sB_c (by omega)]
      exact f4 c c1 c2
end Past
