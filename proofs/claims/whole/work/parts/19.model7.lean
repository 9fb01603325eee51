/-- place p, e events -/
def pe (S : St) (p e : Int) : St := st3 (st3 S 22 5 0 p) 22 6 0 e
theorem pe_p (S : St) (p e q : Int) : st3 (pe S p e) 22 5 0 q = pe S q e := by
  funext c j i
  unfold pe st3
  by_cases h : c = 22 ∧ j = 5 ∧ i = 0
  · rw [if_pos h, if_neg (by omega), if_pos h]
  · rw [if_neg h, if_neg h]
    split <;> rfl
theorem pe_e (S : St) (p e q : Int) : st3 (pe S p e) 22 6 0 q = pe S p q := st3_st3 _ _ _ _ _ _
theorem pe_5 (S : St) (p e : Int) : pe S p e 22 5 0 = p := by unfold pe; rw [st3_j (by decide), st3_s]
theorem pe_6 (S : St) (p e : Int) : pe S p e 22 6 0 = e := st3_s _ _ _ _ _
theorem pe_o {S : St} {p e : Int} {c j i : Nat} (h : ¬ (c = 22 ∧ (j = 5 ∨ j = 6))) : pe S p e c j i = S c j i := by
  unfold pe st3
  rw [if_neg (by omega), if_neg (by omega)]
theorem pe_r {S : St} {p e : Int} {c j : Nat} (h : ¬ (c = 22 ∧ (j = 5 ∨ j = 6))) : pe S p e c j = S c j := by funext i; exact pe_o h
theorem pe_id (S : St) : pe S (S 22 5 0) (S 22 6 0) = S := by unfold pe; rw [st3_id (x := S 22 5 0) rfl, st3_id rfl]
theorem pe_sR (S : St) (p e : Int) (N : Row) : sR (pe S p e) 22 0 N = pe (sR S 22 0 N) p e := by
  funext c j i
  unfold pe sR st3
  dsimp only
  by_cases h : c = 22 ∧ j = 0
  · rw [if_pos h, if_neg (by omega), if_neg (by omega), if_pos h]
  · rw [if_neg h, if_neg h]
theorem pe_pe (S : St) (p e p' e' : Int) : pe (pe S p e) p' e' = pe S p' e' := by
  show st3 (st3 (pe S p e) 22 5 0 p') 22 6 0 e' = _
  rw [pe_p, pe_e]
theorem evF_skp {T : Row} {L p : Int} (hp : p ≤ L) : evF T L (skp T L p) = evF T L p := by unfold evF; rw [skp_id hp]
section Model7
variable {G : GT} {S : St}
theorem h_M_here {p e : Int} (hT : TOk (S 22 3) (S 22 4 0)) (hp : 0 ≤ p ∧ p ≤ S 22 4 0) : Fn G k_M_here [oR G 22] (pe S p e) (PI (fun z S1 => z = sg (S 22 3) (S 22 4 0) (skp (S 22 3) (S 22 4 0) p) ∧ S1 = pe S (skp (S 22 3) (S 22 4 0) p) e)) := by
  have e3 : pe S p e 22 3 = S 22 3 := pe_r (by decide)
  have e4 : pe S p e 22 4 0 = S 22 4 0 := pe_o (by decide)
  have h := c_M_here (G := G) (S := pe S p e) (by rw [e3, e4]; exact hT) (by rw [e4, pe_5]; exact hp)
  rw [e3, e4, pe_5] at h
  simp only [pe_p] at h
  exact h

theorem c_M_event {p e : Int} (hT : TOk (S 22 3) (S 22 4 0)) (hp : 0 ≤ p ∧ p ≤ S 22 4 0) : Fn G k_M_event [oR G 22] (pe S p e) (PI (fun z S1 => z = (evF (S 22 3) (S 22 4 0) p).1 ∧ S1 = pe S (evF (S 22 3) (S 22 4 0) p).2 e)) := by
  obtain ⟨a1, a2, a3⟩ := skp_rg (T := S 22 3) hp.2
  have s1 := sg_rg hT (show 0 ≤ skp (S 22 3) (S 22 4 0) p by omega)
  have hL := hT.1
  refine Fn.of [some (oR G 22), none, none] 2 rfl (by decide +kernel) rfl (Nat.le_of_ble_eq_true rfl) (by decide) ?_
  refine Go_aload d_M_event_0 lg0 ⟨_, rfl⟩ ?_
  refine Go_V0i d_M_event_1 kM (h_M_here hT hp) (Nat.le_of_ble_eq_true rfl) ?_
  rintro z1 S1 ⟨hz1, rfl⟩
  refine Go_istore d_M_event_4 rfl sa1 ?_
  refine Go_iload d_M_event_5 lg1 ?_
  refine Go_const d_M_event_6 ?_
  refine Go_icmp_ne d_M_event_8 (by omega) (by omega) (fun h8 => ?_) (fun h8 => ?_)
  · refine Go_iload d_M_event_24 lg1 ?_
    refine Go_i2l d_M_event_25 (by omega) ?_
    refine Go_lconst d_M_event_26 ?_
    refine Go_lconst d_M_event_29 ?_
    refine Go_S3p d_M_event_32 (c_M_in _ _ _ (by omega) (by omega) (by omega)) (Nat.le_of_ble_eq_true rfl) ?_
    refine Go_ifne_d d_M_event_35 (fun h35 => ?_) (fun h35 => ?_)
    · refine Go_aload d_M_event_46 lg0 ⟨_, rfl⟩ ?_
      refine Go_dup d_M_event_47 rfl ?_
      refine Go_get d_M_event_48 fm_5 ?_
      rw [pe_5]
      refine Go_const d_M_event_51 ?_
      refine Go_iadd d_M_event_52 ?_
      refine Go_put d_M_event_53 (wm_5 _) rfl rfl ?_
      rw [pe_p]
      refine Go_aload d_M_event_56 lg0 ⟨_, rfl⟩ ?_
      refine Go_V0i d_M_event_57 kM (h_M_here hT (by omega)) (Nat.le_of_ble_eq_true rfl) ?_
      rintro z2 S2 ⟨hz2, rfl⟩
      obtain ⟨b1, b2, b3⟩ := skp_rg (T := S 22 3) (L := S 22 4 0) (p := skp (S 22 3) (S 22 4 0) p + 1) (by omega)
      have s2 := sg_rg hT (show 0 ≤ skp (S 22 3) (S 22 4 0) (skp (S 22 3) (S 22 4 0) p + 1) by omega)
      refine Go_const d_M_event_60 ?_
      refine Go_icmp_eq d_M_event_62 (by omega) (by omega) (fun h62 => ?_) (fun h62 => ?_)
      · refine Go_aload d_M_event_67 lg0 ⟨_, rfl⟩ ?_
        refine Go_dup d_M_event_68 rfl ?_
        refine Go_get d_M_event_69 fm_5 ?_
        rw [pe_5]
        refine Go_const d_M_event_72 ?_
        refine Go_iadd d_M_event_73 ?_
        refine Go_put d_M_event_74 (wm_5 _) rfl rfl ?_
        rw [pe_p]
        refine Go_aload d_M_event_77 lg0 ⟨_, rfl⟩ ?_
        refine Go_V0i d_M_event_78 kM (h_M_here hT (by omega)) (Nat.le_of_ble_eq_true rfl) ?_
        rintro z3 S3 ⟨hz3, rfl⟩
        obtain ⟨c1, c2, c3⟩ := skp_rg (T := S 22 3) (L := S 22 4 0) (p := skp (S 22 3) (S 22 4 0) (skp (S 22 3) (S 22 4 0) p + 1) + 1) (by omega)
        have s3 := sg_rg hT (show 0 ≤ skp (S 22 3) (S 22 4 0) (skp (S 22 3) (S 22 4 0) (skp (S 22 3) (S 22 4 0) p + 1) + 1) by omega)
        refine Go_istore d_M_event_81 rfl sa2 ?_
        refine Go_iload d_M_event_82 lg2 ?_
        refine Go_i2l d_M_event_83 (by omega) ?_
        refine Go_lconst d_M_event_84 ?_
        refine Go_lconst d_M_event_87 ?_
        refine Go_S3p d_M_event_90 (c_M_in _ _ _ (by omega) (by omega) (by omega)) (Nat.le_of_ble_eq_true rfl) ?_
        refine Go_ifne_d d_M_event_93 (fun h93 => ?_) (fun h93 => ?_)
        · refine Go_aload d_M_event_98 lg0 ⟨_, rfl⟩ ?_
          refine Go_dup d_M_event_99 rfl ?_
          refine Go_get d_M_event_100 fm_5 ?_
          rw [pe_5]
          refine Go_const d_M_event_103 ?_
          refine Go_iadd d_M_event_104 ?_
          refine Go_put d_M_event_105 (wm_5 _) rfl rfl ?_
          rw [pe_p]
          refine Go_const d_M_event_108 ?_
          refine Go_iload d_M_event_110 lg1 ?_
          refine Go_const d_M_event_111 ?_
          refine Go_icmp_ne d_M_event_113 (by omega) (by omega) (fun h113 => ?_) (fun h113 => ?_)
          · refine Go_iload d_M_event_121 lg1 ?_
            refine Go_const d_M_event_122 ?_
            refine Go_isub d_M_event_124 ?_
            refine Go_imul d_M_event_125 ?_
            refine Go_iload d_M_event_126 lg2 ?_
            refine Go_iadd d_M_event_127 ?_
            refine Go_const d_M_event_128 ?_
            refine Go_isub d_M_event_130 ?_
            refine Go_iretI d_M_event_131 ⟨?_, ?_⟩
            · unfold evF
              (repeat' split) <;> first | rfl | omega
            · unfold evF
              (repeat' split) <;> first | rfl | (exfalso; omega)
          · refine Go_const d_M_event_116 ?_
            refine Go_goto d_M_event_118 ?_
            refine Go_imul d_M_event_125 ?_
            refine Go_iload d_M_event_126 lg2 ?_
            refine Go_iadd d_M_event_127 ?_
            refine Go_const d_M_event_128 ?_
            refine Go_isub d_M_event_130 ?_
            refine Go_iretI d_M_event_131 ⟨?_, ?_⟩
            · unfold evF
              (repeat' split) <;> first | rfl | omega
            · unfold evF
              (repeat' split) <;> first | rfl | (exfalso; omega)
        · refine Go_const d_M_event_96 ?_
          refine Go_iretI d_M_event_97 ⟨?_, ?_⟩
          · unfold evF
            (repeat' split) <;> first | rfl | omega
          · unfold evF
            (repeat' split) <;> first | rfl | (exfalso; omega)
      · refine Go_const d_M_event_65 ?_
        refine Go_iretI d_M_event_66 ⟨?_, ?_⟩
        · unfold evF
          (repeat' split) <;> first | rfl | omega
        · unfold evF
          (repeat' split) <;> first | rfl | (exfalso; omega)
    · refine Go_iload d_M_event_38 lg1 ?_
      refine Go_const d_M_event_39 ?_
      refine Go_icmp_eq d_M_event_41 (by omega) (by omega) (fun h41 => ?_) (fun h41 => ?_)
      · refine Go_aload d_M_event_46 lg0 ⟨_, rfl⟩ ?_
        refine Go_dup d_M_event_47 rfl ?_
        refine Go_get d_M_event_48 fm_5 ?_
        rw [pe_5]
        refine Go_const d_M_event_51 ?_
        refine Go_iadd d_M_event_52 ?_
        refine Go_put d_M_event_53 (wm_5 _) rfl rfl ?_
        rw [pe_p]
        refine Go_aload d_M_event_56 lg0 ⟨_, rfl⟩ ?_
        refine Go_V0i d_M_event_57 kM (h_M_here hT (by omega)) (Nat.le_of_ble_eq_true rfl) ?_
        rintro z2 S2 ⟨hz2, rfl⟩
        obtain ⟨b1, b2, b3⟩ := skp_rg (T := S 22 3) (L := S 22 4 0) (p := skp (S 22 3) (S 22 4 0) p + 1) (by omega)
        have s2 := sg_rg hT (show 0 ≤ skp (S 22 3) (S 22 4 0) (skp (S 22 3) (S 22 4 0) p + 1) by omega)
        refine Go_const d_M_event_60 ?_
        refine Go_icmp_eq d_M_event_62 (by omega) (by omega) (fun h62 => ?_) (fun h62 => ?_)
        · refine Go_aload d_M_event_67 lg0 ⟨_, rfl⟩ ?_
          refine Go_dup d_M_event_68 rfl ?_
          refine Go_get d_M_event_69 fm_5 ?_
          rw [pe_5]
          refine Go_const d_M_event_72 ?_
          refine Go_iadd d_M_event_73 ?_
          refine Go_put d_M_event_74 (wm_5 _) rfl rfl ?_
          rw [pe_p]
          refine Go_aload d_M_event_77 lg0 ⟨_, rfl⟩ ?_
          refine Go_V0i d_M_event_78 kM (h_M_here hT (by omega)) (Nat.le_of_ble_eq_true rfl) ?_
          rintro z3 S3 ⟨hz3, rfl⟩
          obtain ⟨c1, c2, c3⟩ := skp_rg (T := S 22 3) (L := S 22 4 0) (p := skp (S 22 3) (S 22 4 0) (skp (S 22 3) (S 22 4 0) p + 1) + 1) (by omega)
          have s3 := sg_rg hT (show 0 ≤ skp (S 22 3) (S 22 4 0) (skp (S 22 3) (S 22 4 0) (skp (S 22 3) (S 22 4 0) p + 1) + 1) by omega)
          refine Go_istore d_M_event_81 rfl sa2 ?_
          refine Go_iload d_M_event_82 lg2 ?_
          refine Go_i2l d_M_event_83 (by omega) ?_
          refine Go_lconst d_M_event_84 ?_
          refine Go_lconst d_M_event_87 ?_
          refine Go_S3p d_M_event_90 (c_M_in _ _ _ (by omega) (by omega) (by omega)) (Nat.le_of_ble_eq_true rfl) ?_
          refine Go_ifne_d d_M_event_93 (fun h93 => ?_) (fun h93 => ?_)
          · refine Go_aload d_M_event_98 lg0 ⟨_, rfl⟩ ?_
            refine Go_dup d_M_event_99 rfl ?_
            refine Go_get d_M_event_100 fm_5 ?_
            rw [pe_5]
            refine Go_const d_M_event_103 ?_
            refine Go_iadd d_M_event_104 ?_
            refine Go_put d_M_event_105 (wm_5 _) rfl rfl ?_
            rw [pe_p]
            refine Go_const d_M_event_108 ?_
            refine Go_iload d_M_event_110 lg1 ?_
            refine Go_const d_M_event_111 ?_
            refine Go_icmp_ne d_M_event_113 (by omega) (by omega) (fun h113 => ?_) (fun h113 => ?_)
            · refine Go_iload d_M_event_121 lg1 ?_
              refine Go_const d_M_event_122 ?_
              refine Go_isub d_M_event_124 ?_
              refine Go_imul d_M_event_125 ?_
              refine Go_iload d_M_event_126 lg2 ?_
              refine Go_iadd d_M_event_127 ?_
              refine Go_const d_M_event_128 ?_
              refine Go_isub d_M_event_130 ?_
              refine Go_iretI d_M_event_131 ⟨?_, ?_⟩
              · unfold evF
                (repeat' split) <;> first | rfl | omega
              · unfold evF
                (repeat' split) <;> first | rfl | (exfalso; omega)
            · refine Go_const d_M_event_116 ?_
              refine Go_goto d_M_event_118 ?_
              refine Go_imul d_M_event_125 ?_
              refine Go_iload d_M_event_126 lg2 ?_
              refine Go_iadd d_M_event_127 ?_
              refine Go_const d_M_event_128 ?_
              refine Go_isub d_M_event_130 ?_
              refine Go_iretI d_M_event_131 ⟨?_, ?_⟩
              · unfold evF
                (repeat' split) <;> first | rfl | omega
              · unfold evF
                (repeat' split) <;> first | rfl | (exfalso; omega)
          · refine Go_const d_M_event_96 ?_
            refine Go_iretI d_M_event_97 ⟨?_, ?_⟩
            · unfold evF
              (repeat' split) <;> first | rfl | omega
            · unfold evF
              (repeat' split) <;> first | rfl | (exfalso; omega)
        · refine Go_const d_M_event_65 ?_
          refine Go_iretI d_M_event_66 ⟨?_, ?_⟩
          · unfold evF
            (repeat' split) <;> first | rfl | omega
          · unfold evF
            (repeat' split) <;> first | rfl | (exfalso; omega)
      · refine Go_const d_M_event_44 ?_
        refine Go_iretI d_M_event_45 ⟨?_, ?_⟩
        · unfold evF
          (repeat' split) <;> first | rfl | omega
        · unfold evF
          (repeat' split) <;> first | rfl | (exfalso; omega)
  · refine Go_aload d_M_event_11 lg0 ⟨_, rfl⟩ ?_
    refine Go_dup d_M_event_12 rfl ?_
    refine Go_get d_M_event_13 fm_5 ?_
    rw [pe_5]
    refine Go_const d_M_event_16 ?_
    refine Go_iadd d_M_event_17 ?_
    refine Go_put d_M_event_18 (wm_5 _) rfl rfl ?_
    rw [pe_p]
    refine Go_const d_M_event_21 ?_
    refine Go_iretI d_M_event_23 ⟨?_, ?_⟩
    · unfold evF
      (repeat' split) <;> first | rfl | omega
    · unfold evF
      (repeat' split) <;> first | rfl | (exfalso; omega)
theorem c_M_look (hT : TOk (S 22 3) (S 22 4 0)) : Fn G k_M_goesThrough [oR G 22, vI 0] S (PI (fun z S1 => z = (if (gth (S 22 3) (S 22 4 0) 91 0 0).1 then 1 else 0) ∧ S1 = pe S (gth (S 22 3) (S 22 4 0) 91 0 0).2.2 (gth (S 22 3) (S 22 4 0) 91 0 0).2.1)) := by
  have hL := hT.1
  generalize hR : gth (S 22 3) (S 22 4 0) 91 0 0 = R
  refine Fn.of [some (oR G 22), some (vI 0), none, none, none, none] 4 rfl (by decide +kernel) rfl (Nat.le_of_ble_eq_true rfl) (by decide) ?_

  have loop : ∀ (f : Nat) (e p : Int), 0 ≤ e → e ≤ p → p ≤ S 22 4 0 → (S 22 4 0 - p).toNat < f → gth (S 22 3) (S 22 4 0) f e p = R → Go G k_M_goesThrough 14 [some (oR G 22), some (vI 0), some (vI 1), some (vI 1), none, none] [] (pe S p e) (PI (fun z S1 => z = (if R.1 then 1 else 0) ∧ S1 = pe S R.2.2 R.2.1)) := by
    intro f
    induction f with
    | zero => intro e p _ _ _ hf; omega
    | succ f ih =>
      intro e p h0 h1 h2 hf hg
      obtain ⟨v1, v2, v3, v4⟩ := evF_rg hT (p := p) (by omega)
      obtain ⟨a1, a2, a3⟩ := skp_rg (T := S 22 3) h2
      have s1 := sg_rg hT (show 0 ≤ skp (S 22 3) (S 22 4 0) p by omega)
      unfold gth at hg
      refine Go_iload d_M_goesThrough_14 lg2 ?_
      refine Go_if_eq d_M_goesThrough_15 (by decide) (fun h => absurd h (by decide)) (fun _ => ?_)
      refine Go_iload d_M_goesThrough_18 lg3 ?_
      refine Go_if_eq d_M_goesThrough_19 (by decide) (fun h => absurd h (by decide)) (fun _ => ?_)
      refine Go_aload d_M_goesThrough_22 lg0 ⟨_, rfl⟩ ?_
      refine Go_get d_M_goesThrough_23 fm_6 ?_
      rw [pe_6]
      refine Go_if_eq d_M_goesThrough_26 (by omega) (fun h26 => ?_) (fun h26 => ?_)
      · refine Go_aload d_M_goesThrough_36 lg0 ⟨_, rfl⟩ ?_
        refine Go_V0i d_M_goesThrough_37 kM (c_M_event hT (by omega)) (Nat.le_of_ble_eq_true rfl) ?_
        rintro z2 S2 ⟨hz2, rfl⟩
        try rw [hev] at hz2
        try rw [hev]
        refine Go_istore d_M_goesThrough_40 rfl sa4 ?_
        refine Go_iload d_M_goesThrough_42 lg4 ?_
        refine Go_if_lt d_M_goesThrough_44 (by omega) (fun h44 => ?_) (fun h44 => ?_)
        · refine Go_const d_M_goesThrough_51 ?_
          refine Go_istore d_M_goesThrough_52 rfl sa2 ?_
          refine Go_iload d_M_goesThrough_53 lg1 ?_
          refine Go_if_eq d_M_goesThrough_54 (by decide) (fun _ => ?_) (fun h => absurd h (by decide))
          refine Go_const d_M_goesThrough_61 ?_
          refine Go_goto d_M_goesThrough_62 ?_
          refine Go_istore d_M_goesThrough_93 rfl sa5 ?_
          refine Go_iload d_M_goesThrough_95 lg5 ?_
          refine Go_if_lt d_M_goesThrough_97 (by decide) (fun h => absurd h (by decide)) (fun _ => ?_)
          refine Go_const d_M_goesThrough_100 ?_
          refine Go_goto d_M_goesThrough_101 ?_
          refine Go_istore d_M_goesThrough_105 rfl sa3 ?_
          refine Go_aload d_M_goesThrough_106 lg0 ⟨_, rfl⟩ ?_
          refine Go_dup d_M_goesThrough_107 rfl ?_
          refine Go_get d_M_goesThrough_108 fm_6 ?_
          rw [pe_6]
          refine Go_iload d_M_goesThrough_111 lg2 ?_
          refine Go_if_eq d_M_goesThrough_112 (by decide) (fun _ => ?_) (fun h => absurd h (by decide))
          refine Go_const d_M_goesThrough_123 ?_
          refine Go_iadd d_M_goesThrough_124 ?_
          refine Go_put d_M_goesThrough_125 (wm_6 _) rfl rfl ?_
          rw [pe_e]
          refine Go_goto d_M_goesThrough_128 ?_
          refine Go_iload d_M_goesThrough_14 lg2 ?_
          refine Go_if_eq d_M_goesThrough_15 (by decide) (fun _ => ?_) (fun h => absurd h (by decide))
          refine Go_iload d_M_goesThrough_131 lg2 ?_
          first
            | (rw [if_pos (by omega)] at hg
               exact Go_zretI d_M_goesThrough_132 (by first | exact Or.inl rfl | exact Or.inr rfl) ⟨by rw [← hg]; rfl, by rw [← hg]⟩)
            | (rw [if_neg (by omega), if_pos (by omega)] at hg
               exact Go_zretI d_M_goesThrough_132 (by first | exact Or.inl rfl | exact Or.inr rfl) ⟨by rw [← hg]; rfl, by rw [← hg]; try rw [Int.add_zero]⟩)
        · refine Go_const d_M_goesThrough_47 ?_
          refine Go_goto d_M_goesThrough_48 ?_
          refine Go_istore d_M_goesThrough_52 rfl sa2 ?_
          refine Go_iload d_M_goesThrough_53 lg1 ?_
          refine Go_if_eq d_M_goesThrough_54 (by decide) (fun _ => ?_) (fun h => absurd h (by decide))
          refine Go_const d_M_goesThrough_61 ?_
          refine Go_goto d_M_goesThrough_62 ?_
          refine Go_istore d_M_goesThrough_93 rfl sa5 ?_
          refine Go_iload d_M_goesThrough_95 lg5 ?_
          refine Go_if_lt d_M_goesThrough_97 (by decide) (fun h => absurd h (by decide)) (fun _ => ?_)
          refine Go_const d_M_goesThrough_100 ?_
          refine Go_goto d_M_goesThrough_101 ?_
          refine Go_istore d_M_goesThrough_105 rfl sa3 ?_
          refine Go_aload d_M_goesThrough_106 lg0 ⟨_, rfl⟩ ?_
          refine Go_dup d_M_goesThrough_107 rfl ?_
          refine Go_get d_M_goesThrough_108 fm_6 ?_
          rw [pe_6]
          refine Go_iload d_M_goesThrough_111 lg2 ?_
          refine Go_if_eq d_M_goesThrough_112 (by decide) (fun h => absurd h (by decide)) (fun _ => ?_)
          refine Go_iload d_M_goesThrough_115 lg3 ?_
          refine Go_if_eq d_M_goesThrough_116 (by decide) (fun h => absurd h (by decide)) (fun _ => ?_)
          refine Go_const d_M_goesThrough_119 ?_
          refine Go_goto d_M_goesThrough_120 ?_
          refine Go_iadd d_M_goesThrough_124 ?_
          refine Go_put d_M_goesThrough_125 (wm_6 _) rfl rfl ?_
          rw [pe_e]
          refine Go_goto d_M_goesThrough_128 ?_
          rw [if_neg (by omega), if_neg (by omega)] at hg
          first
            | exact fg4 (fg5 (ih (e + 1) _ (by omega) (by omega) (by omega) (by omega) hg))
      · refine Go_aload d_M_goesThrough_29 lg0 ⟨_, rfl⟩ ?_
        refine Go_V0i d_M_goesThrough_30 kM (h_M_here hT (by omega)) (Nat.le_of_ble_eq_true rfl) ?_
        rintro z1 S1 ⟨hz1, rfl⟩
        have hev := evF_skp (T := S 22 3) (L := S 22 4 0) (p := p) h2
        refine Go_if_eq d_M_goesThrough_33 (by omega) (fun h33 => ?_) (fun h33 => ?_)
        · refine Go_iload d_M_goesThrough_131 lg2 ?_
          first
            | (rw [if_pos (by omega)] at hg
               exact Go_zretI d_M_goesThrough_132 (by first | exact Or.inl rfl | exact Or.inr rfl) ⟨by rw [← hg]; rfl, by rw [← hg]⟩)
            | (rw [if_neg (by omega), if_pos (by omega)] at hg
               exact Go_zretI d_M_goesThrough_132 (by first | exact Or.inl rfl | exact Or.inr rfl) ⟨by rw [← hg]; rfl, by rw [← hg]; try rw [Int.add_zero]⟩)
        · refine Go_aload d_M_goesThrough_36 lg0 ⟨_, rfl⟩ ?_
          refine Go_V0i d_M_goesThrough_37 kM (c_M_event hT (by omega)) (Nat.le_of_ble_eq_true rfl) ?_
          rintro z2 S2 ⟨hz2, rfl⟩
          try rw [hev] at hz2
          try rw [hev]
          refine Go_istore d_M_goesThrough_40 rfl sa4 ?_
          refine Go_iload d_M_goesThrough_42 lg4 ?_
          refine Go_if_lt d_M_goesThrough_44 (by omega) (fun h44 => ?_) (fun h44 => ?_)
          · refine Go_const d_M_goesThrough_51 ?_
            refine Go_istore d_M_goesThrough_52 rfl sa2 ?_
            refine Go_iload d_M_goesThrough_53 lg1 ?_
            refine Go_if_eq d_M_goesThrough_54 (by decide) (fun _ => ?_) (fun h => absurd h (by decide))
            refine Go_const d_M_goesThrough_61 ?_
            refine Go_goto d_M_goesThrough_62 ?_
            refine Go_istore d_M_goesThrough_93 rfl sa5 ?_
            refine Go_iload d_M_goesThrough_95 lg5 ?_
            refine Go_if_lt d_M_goesThrough_97 (by decide) (fun h => absurd h (by decide)) (fun _ => ?_)
            refine Go_const d_M_goesThrough_100 ?_
            refine Go_goto d_M_goesThrough_101 ?_
            refine Go_istore d_M_goesThrough_105 rfl sa3 ?_
            refine Go_aload d_M_goesThrough_106 lg0 ⟨_, rfl⟩ ?_
            refine Go_dup d_M_goesThrough_107 rfl ?_
            refine Go_get d_M_goesThrough_108 fm_6 ?_
            rw [pe_6]
            refine Go_iload d_M_goesThrough_111 lg2 ?_
            refine Go_if_eq d_M_goesThrough_112 (by decide) (fun _ => ?_) (fun h => absurd h (by decide))
            refine Go_const d_M_goesThrough_123 ?_
            refine Go_iadd d_M_goesThrough_124 ?_
            refine Go_put d_M_goesThrough_125 (wm_6 _) rfl rfl ?_
            rw [pe_e]
            refine Go_goto d_M_goesThrough_128 ?_
            refine Go_iload d_M_goesThrough_14 lg2 ?_
            refine Go_if_eq d_M_goesThrough_15 (by decide) (fun _ => ?_) (fun h => absurd h (by decide))
            refine Go_iload d_M_goesThrough_131 lg2 ?_
            first
              | (rw [if_pos (by omega)] at hg
                 exact Go_zretI d_M_goesThrough_132 (by first | exact Or.inl rfl | exact Or.inr rfl) ⟨by rw [← hg]; rfl, by rw [← hg]⟩)
              | (rw [if_neg (by omega), if_pos (by omega)] at hg
                 exact Go_zretI d_M_goesThrough_132 (by first | exact Or.inl rfl | exact Or.inr rfl) ⟨by rw [← hg]; rfl, by rw [← hg]; try rw [Int.add_zero]⟩)
          · refine Go_const d_M_goesThrough_47 ?_
            refine Go_goto d_M_goesThrough_48 ?_
            refine Go_istore d_M_goesThrough_52 rfl sa2 ?_
            refine Go_iload d_M_goesThrough_53 lg1 ?_
            refine Go_if_eq d_M_goesThrough_54 (by decide) (fun _ => ?_) (fun h => absurd h (by decide))
            refine Go_const d_M_goesThrough_61 ?_
            refine Go_goto d_M_goesThrough_62 ?_
            refine Go_istore d_M_goesThrough_93 rfl sa5 ?_
            refine Go_iload d_M_goesThrough_95 lg5 ?_
            refine Go_if_lt d_M_goesThrough_97 (by decide) (fun h => absurd h (by decide)) (fun _ => ?_)
            refine Go_const d_M_goesThrough_100 ?_
            refine Go_goto d_M_goesThrough_101 ?_
            refine Go_istore d_M_goesThrough_105 rfl sa3 ?_
            refine Go_aload d_M_goesThrough_106 lg0 ⟨_, rfl⟩ ?_
            refine Go_dup d_M_goesThrough_107 rfl ?_
            refine Go_get d_M_goesThrough_108 fm_6 ?_
            rw [pe_6]
            refine Go_iload d_M_goesThrough_111 lg2 ?_
            refine Go_if_eq d_M_goesThrough_112 (by decide) (fun h => absurd h (by decide)) (fun _ => ?_)
            refine Go_iload d_M_goesThrough_115 lg3 ?_
            refine Go_if_eq d_M_goesThrough_116 (by decide) (fun h => absurd h (by decide)) (fun _ => ?_)
            refine Go_const d_M_goesThrough_119 ?_
            refine Go_goto d_M_goesThrough_120 ?_
            refine Go_iadd d_M_goesThrough_124 ?_
            refine Go_put d_M_goesThrough_125 (wm_6 _) rfl rfl ?_
            rw [pe_e]
            refine Go_goto d_M_goesThrough_128 ?_
            rw [if_neg (by omega), if_neg (by omega)] at hg
            first
              | exact fg4 (fg5 (ih (e + 1) _ (by omega) (by omega) (by omega) (by omega) hg))
  refine Go_aload d_M_goesThrough_0 lg0 ⟨_, rfl⟩ ?_
  refine Go_const d_M_goesThrough_1 ?_
  refine Go_put d_M_goesThrough_2 (wm_5 _) rfl rfl ?_
  refine Go_aload d_M_goesThrough_5 lg0 ⟨_, rfl⟩ ?_
  refine Go_const d_M_goesThrough_6 ?_
  refine Go_put d_M_goesThrough_7 (wm_6 _) rfl rfl ?_
  refine Go_const d_M_goesThrough_10 ?_
  refine Go_istore d_M_goesThrough_11 rfl sa2 ?_
  refine Go_const d_M_goesThrough_12 ?_
  refine Go_istore d_M_goesThrough_13 rfl sa3 ?_
  exact loop 91 0 0 (by omega) (by omega) (by omega) (by omega) hR
end Model7
