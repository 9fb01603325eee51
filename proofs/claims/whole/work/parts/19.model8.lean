section Model8
variable {G : GT} {S : St}
theorem h2_here {T : Row} {L p e : Int} (e3 : S 22 3 = T) (e4 : S 22 4 0 = L) (hT : TOk T L) (hp : 0 ≤ p ∧ p ≤ L) : Fn G k_M_here [oR G 22] (pe S p e) (PI (fun z S1 => z = sg T L (skp T L p) ∧ S1 = pe S (skp T L p) e)) := by
  subst e3; subst e4; exact h_M_here hT hp
theorem h2_event {T : Row} {L p e : Int} (e3 : S 22 3 = T) (e4 : S 22 4 0 = L) (hT : TOk T L) (hp : 0 ≤ p ∧ p ≤ L) : Fn G k_M_event [oR G 22] (pe S p e) (PI (fun z S1 => z = (evF T L p).1 ∧ S1 = pe S (evF T L p).2 e)) := by
  subst e3; subst e4; exact c_M_event hT hp
theorem c_M_does {T : Row} {L : Int} {N : Row} {R : Int × Int × Row} (e3 : S 22 3 = T) (e4 : S 22 4 0 = L) (hT : TOk T L) (hN : S 22 0 = N) (h : NR N) (hR : gthD T L 91 0 0 N = R) : Fn G k_M_goesThrough [oR G 22, vI 1] S (PI (fun _ S1 => S1 = pe (sR S 22 0 R.2.2) R.2.1 R.1)) := by
  have hL := hT.1
  refine Fn.of [some (oR G 22), some (vI 1), none, none, none, none] 4 rfl (by decide +kernel) rfl (Nat.le_of_ble_eq_true rfl) (by decide) ?_

  have loop : ∀ (f : Nat) (e p : Int) (N : Row), NR N → 0 ≤ e → e ≤ p → p ≤ L → (L - p).toNat < f → gthD T L f e p N = R → Go G k_M_goesThrough 14 [some (oR G 22), some (vI 1), some (vI 1), some (vI 1), none, none] [] (pe (sR S 22 0 N) p e) (PI (fun _ S1 => S1 = pe (sR S 22 0 R.2.2) R.2.1 R.1)) := by
    intro f
    induction f with
    | zero => intro e p N _ _ _ _ hf; omega
    | succ f ih =>
      intro e p N hNR h0 h1 h2 hf hg
      have g3 : (sR S 22 0 N) 22 3 = T := by rw [sR_j (by decide), e3]
      have g4 : (sR S 22 0 N) 22 4 0 = L := by rw [sR_ji (by decide), e4]
      obtain ⟨v1, v2, v3, v4⟩ := evF_rg hT (p := p) (by omega)
      obtain ⟨a1, a2, a3⟩ := skp_rg (T := T) h2
      have s1 := sg_rg hT (show 0 ≤ skp T L p by omega)
      have eN : ∀ p e, pe (sR S 22 0 N) p e 22 0 = N := fun p e => by rw [pe_r (by decide), sR_s]
      unfold gthD at hg
      refine Go_iload d_M_goesThrough_14 lg2 ?_
      refine Go_if_eq d_M_goesThrough_15 (by decide) (fun h => absurd h (by decide)) (fun _ => ?_)
      refine Go_iload d_M_goesThrough_18 lg3 ?_
      refine Go_if_eq d_M_goesThrough_19 (by decide) (fun h => absurd h (by decide)) (fun _ => ?_)
      refine Go_aload d_M_goesThrough_22 lg0 ⟨_, rfl⟩ ?_
      refine Go_get d_M_goesThrough_23 fm_6 ?_
      rw [pe_6]
      refine Go_if_eq d_M_goesThrough_26 (by omega) (fun h26 => ?_) (fun h26 => ?_)
      · refine Go_aload d_M_goesThrough_36 lg0 ⟨_, rfl⟩ ?_
        refine Go_V0i d_M_goesThrough_37 kM (h2_event g3 g4 hT (by omega)) (Nat.le_of_ble_eq_true rfl) ?_
        rintro z2 S2 ⟨hz2, rfl⟩
        try rw [hev] at hz2
        try rw [hev]
        refine Go_istore d_M_goesThrough_40 rfl sa4 ?_
        refine Go_iload d_M_goesThrough_42 lg4 ?_
        refine Go_if_lt d_M_goesThrough_44 (by omega) (fun h44 => ?_) (fun h44 => ?_)
        · refine Go_const d_M_goesThrough_51 ?_
          refine Go_istore d_M_goesThrough_52 rfl sa2 ?_
          refine Go_iload d_M_goesThrough_53 lg1 ?_
          refine Go_if_eq d_M_goesThrough_54 (by decide) (fun h => absurd h (by decide)) (fun _ => ?_)
          refine Go_iload d_M_goesThrough_57 lg2 ?_
          refine Go_if_ne d_M_goesThrough_58 (by decide) (fun h => absurd h (by decide)) (fun _ => ?_)
          refine Go_const d_M_goesThrough_61 ?_
          refine Go_goto d_M_goesThrough_62 ?_
          refine Go_istore d_M_goesThrough_93 rfl sa5 ?_
          refine Go_iload d_M_goesThrough_95 lg5 ?_
          refine Go_if_lt d_M_goesThrough_97 (by decide) (fun h => absurd h (by decide)) (fun _ => ?_)
          refine Go_const d_M_goesThrough_100 ?_
          refine Go_goto d_M_goesThrough_101 ?_
          refine Go_istore d_M_goesThrough_105 rfl sa3 ?_
          refine Go_aload d_M_goesThrough_106 lg0 ⟨_, rfl⟩ ?_
          refine Go_dup d_M_goesThrough_107 rfl ?_
          refine Go_get d_M_goesThrough_108 fm_6 ?_
          rw [pe_6]
          refine Go_iload d_M_goesThrough_111 lg2 ?_
          refine Go_if_eq d_M_goesThrough_112 (by decide) (fun _ => ?_) (fun h => absurd h (by decide))
          refine Go_const d_M_goesThrough_123 ?_
          refine Go_iadd d_M_goesThrough_124 ?_
          refine Go_put d_M_goesThrough_125 (wm_6 _) rfl rfl ?_
          rw [pe_e]
          refine Go_goto d_M_goesThrough_128 ?_
          refine Go_iload d_M_goesThrough_14 lg2 ?_
          refine Go_if_eq d_M_goesThrough_15 (by decide) (fun _ => ?_) (fun h => absurd h (by decide))
          refine Go_iload d_M_goesThrough_131 lg2 ?_
          first
            | (rw [if_pos (by omega)] at hg
               exact Go_zretI d_M_goesThrough_132 (by first | exact Or.inl rfl | exact Or.inr rfl) (by rw [← hg]))
            | (rw [if_neg (by omega), if_pos (by omega)] at hg
               exact Go_zretI d_M_goesThrough_132 (by first | exact Or.inl rfl | exact Or.inr rfl) (by rw [← hg]; try rw [Int.add_zero]))
            | (rw [if_neg (by omega), if_neg (by omega), if_pos (by rw [hd]; dsimp only; omega), hd] at hg
               exact Go_zretI d_M_goesThrough_132 (by first | exact Or.inl rfl | exact Or.inr rfl) (by rw [← hg]; try rw [Int.add_zero]))
        · refine Go_const d_M_goesThrough_47 ?_
          refine Go_goto d_M_goesThrough_48 ?_
          refine Go_istore d_M_goesThrough_52 rfl sa2 ?_
          refine Go_iload d_M_goesThrough_53 lg1 ?_
          refine Go_if_eq d_M_goesThrough_54 (by decide) (fun h => absurd h (by decide)) (fun _ => ?_)
          refine Go_iload d_M_goesThrough_57 lg2 ?_
          refine Go_if_ne d_M_goesThrough_58 (by decide) (fun _ => ?_) (fun h => absurd h (by decide))
          refine Go_iload d_M_goesThrough_65 lg4 ?_
          refine Go_const d_M_goesThrough_67 ?_
          refine Go_icmp_ne d_M_goesThrough_69 (by omega) (by omega) (fun h69 => ?_) (fun h69 => ?_)
          · refine Go_aload d_M_goesThrough_79 lg0 ⟨_, rfl⟩ ?_
            refine Go_iload d_M_goesThrough_80 lg4 ?_
            refine Go_const d_M_goesThrough_82 ?_
            refine Go_idiv d_M_goesThrough_84 (by omega) (by omega) ?_
            refine Go_iload d_M_goesThrough_85 lg4 ?_
            refine Go_const d_M_goesThrough_87 ?_
            refine Go_irem d_M_goesThrough_89 (by omega) (by omega) ?_
            refine Go_V2i d_M_goesThrough_90 kM (c_M_comes _ _ (by omega) (by omega) (by rw [eN]; exact hNR)) (Nat.le_of_ble_eq_true rfl) ?_
            rintro z S2 ⟨N1, hz, rfl⟩
            rw [eN] at hz
            have hd : evDo N (evF T L p).1 = (z, N1) := by
              unfold evDo
              rw [if_neg (by omega), ← hz2]
              exact hz.eq
            have hNR1 : NR N1 := by
              have := (evDo_NR (c := (evF T L p).1) hNR (by omega)).1
              rw [hd] at this
              exact this
            have hzr : -3 ≤ z ∧ z ≤ 79 := by
              have := (evDo_NR (c := (evF T L p).1) hNR (by omega)).2
              rw [hd] at this
              exact this
            rw [pe_sR, sR_sR]
            refine Go_istore d_M_goesThrough_93 rfl sa5 ?_
            refine Go_iload d_M_goesThrough_95 lg5 ?_
            refine Go_if_lt d_M_goesThrough_97 (by omega) (fun h97 => ?_) (fun h97 => ?_)
            · refine Go_const d_M_goesThrough_104 ?_
              refine Go_istore d_M_goesThrough_105 rfl sa3 ?_
              refine Go_aload d_M_goesThrough_106 lg0 ⟨_, rfl⟩ ?_
              refine Go_dup d_M_goesThrough_107 rfl ?_
              refine Go_get d_M_goesThrough_108 fm_6 ?_
              rw [pe_6]
              refine Go_iload d_M_goesThrough_111 lg2 ?_
              refine Go_if_eq d_M_goesThrough_112 (by decide) (fun h => absurd h (by decide)) (fun _ => ?_)
              refine Go_iload d_M_goesThrough_115 lg3 ?_
              refine Go_if_eq d_M_goesThrough_116 (by decide) (fun _ => ?_) (fun h => absurd h (by decide))
              refine Go_const d_M_goesThrough_123 ?_
              refine Go_iadd d_M_goesThrough_124 ?_
              refine Go_put d_M_goesThrough_125 (wm_6 _) rfl rfl ?_
              rw [pe_e]
              refine Go_goto d_M_goesThrough_128 ?_
              refine Go_iload d_M_goesThrough_14 lg2 ?_
              refine Go_if_eq d_M_goesThrough_15 (by decide) (fun h => absurd h (by decide)) (fun _ => ?_)
              refine Go_iload d_M_goesThrough_18 lg3 ?_
              refine Go_if_eq d_M_goesThrough_19 (by decide) (fun _ => ?_) (fun h => absurd h (by decide))
              refine Go_iload d_M_goesThrough_131 lg2 ?_
              first
                | (rw [if_pos (by omega)] at hg
                   exact Go_zretI d_M_goesThrough_132 (by first | exact Or.inl rfl | exact Or.inr rfl) (by rw [← hg]))
                | (rw [if_neg (by omega), if_pos (by omega)] at hg
                   exact Go_zretI d_M_goesThrough_132 (by first | exact Or.inl rfl | exact Or.inr rfl) (by rw [← hg]; try rw [Int.add_zero]))
                | (rw [if_neg (by omega), if_neg (by omega), if_pos (by rw [hd]; dsimp only; omega), hd] at hg
                   exact Go_zretI d_M_goesThrough_132 (by first | exact Or.inl rfl | exact Or.inr rfl) (by rw [← hg]; try rw [Int.add_zero]))
            · refine Go_const d_M_goesThrough_100 ?_
              refine Go_goto d_M_goesThrough_101 ?_
              refine Go_istore d_M_goesThrough_105 rfl sa3 ?_
              refine Go_aload d_M_goesThrough_106 lg0 ⟨_, rfl⟩ ?_
              refine Go_dup d_M_goesThrough_107 rfl ?_
              refine Go_get d_M_goesThrough_108 fm_6 ?_
              rw [pe_6]
              refine Go_iload d_M_goesThrough_111 lg2 ?_
              refine Go_if_eq d_M_goesThrough_112 (by decide) (fun h => absurd h (by decide)) (fun _ => ?_)
              refine Go_iload d_M_goesThrough_115 lg3 ?_
              refine Go_if_eq d_M_goesThrough_116 (by decide) (fun h => absurd h (by decide)) (fun _ => ?_)
              refine Go_const d_M_goesThrough_119 ?_
              refine Go_goto d_M_goesThrough_120 ?_
              refine Go_iadd d_M_goesThrough_124 ?_
              refine Go_put d_M_goesThrough_125 (wm_6 _) rfl rfl ?_
              rw [pe_e]
              refine Go_goto d_M_goesThrough_128 ?_
              rw [if_neg (by omega), if_neg (by omega), if_neg (by rw [hd]; dsimp only; omega)] at hg
              rw [hd] at hg
              exact fg4 (fg5 (ih (e + 1) _ _ hNR1 (by omega) (by omega) (by omega) (by omega) hg))
          · refine Go_aload d_M_goesThrough_72 lg0 ⟨_, rfl⟩ ?_
            refine Go_V0i d_M_goesThrough_73 kM (c_M_ticks (by rw [eN]; exact hNR)) (Nat.le_of_ble_eq_true rfl) ?_
            rintro z S2 ⟨N1, hz, rfl⟩
            rw [eN] at hz
            have hd : evDo N (evF T L p).1 = (z, N1) := by
              unfold evDo
              rw [if_pos (by omega)]
              exact hz.eq
            have hNR1 : NR N1 := by
              have := (evDo_NR (c := (evF T L p).1) hNR (by omega)).1
              rw [hd] at this
              exact this
            have hzr : -3 ≤ z ∧ z ≤ 79 := by
              have := (evDo_NR (c := (evF T L p).1) hNR (by omega)).2
              rw [hd] at this
              exact this
            rw [pe_sR, sR_sR]
            refine Go_goto d_M_goesThrough_76 ?_
            refine Go_istore d_M_goesThrough_93 rfl sa5 ?_
            refine Go_iload d_M_goesThrough_95 lg5 ?_
            refine Go_if_lt d_M_goesThrough_97 (by omega) (fun h97 => ?_) (fun h97 => ?_)
            · refine Go_const d_M_goesThrough_104 ?_
              refine Go_istore d_M_goesThrough_105 rfl sa3 ?_
              refine Go_aload d_M_goesThrough_106 lg0 ⟨_, rfl⟩ ?_
              refine Go_dup d_M_goesThrough_107 rfl ?_
              refine Go_get d_M_goesThrough_108 fm_6 ?_
              rw [pe_6]
              refine Go_iload d_M_goesThrough_111 lg2 ?_
              refine Go_if_eq d_M_goesThrough_112 (by decide) (fun h => absurd h (by decide)) (fun _ => ?_)
              refine Go_iload d_M_goesThrough_115 lg3 ?_
              refine Go_if_eq d_M_goesThrough_116 (by decide) (fun _ => ?_) (fun h => absurd h (by decide))
              refine Go_const d_M_goesThrough_123 ?_
              refine Go_iadd d_M_goesThrough_124 ?_
              refine Go_put d_M_goesThrough_125 (wm_6 _) rfl rfl ?_
              rw [pe_e]
              refine Go_goto d_M_goesThrough_128 ?_
              refine Go_iload d_M_goesThrough_14 lg2 ?_
              refine Go_if_eq d_M_goesThrough_15 (by decide) (fun h => absurd h (by decide)) (fun _ => ?_)
              refine Go_iload d_M_goesThrough_18 lg3 ?_
              refine Go_if_eq d_M_goesThrough_19 (by decide) (fun _ => ?_) (fun h => absurd h (by decide))
              refine Go_iload d_M_goesThrough_131 lg2 ?_
              first
                | (rw [if_pos (by omega)] at hg
                   exact Go_zretI d_M_goesThrough_132 (by first | exact Or.inl rfl | exact Or.inr rfl) (by rw [← hg]))
                | (rw [if_neg (by omega), if_pos (by omega)] at hg
                   exact Go_zretI d_M_goesThrough_132 (by first | exact Or.inl rfl | exact Or.inr rfl) (by rw [← hg]; try rw [Int.add_zero]))
                | (rw [if_neg (by omega), if_neg (by omega), if_pos (by rw [hd]; dsimp only; omega), hd] at hg
                   exact Go_zretI d_M_goesThrough_132 (by first | exact Or.inl rfl | exact Or.inr rfl) (by rw [← hg]; try rw [Int.add_zero]))
            · refine Go_const d_M_goesThrough_100 ?_
              refine Go_goto d_M_goesThrough_101 ?_
              refine Go_istore d_M_goesThrough_105 rfl sa3 ?_
              refine Go_aload d_M_goesThrough_106 lg0 ⟨_, rfl⟩ ?_
              refine Go_dup d_M_goesThrough_107 rfl ?_
              refine Go_get d_M_goesThrough_108 fm_6 ?_
              rw [pe_6]
              refine Go_iload d_M_goesThrough_111 lg2 ?_
              refine Go_if_eq d_M_goesThrough_112 (by decide) (fun h => absurd h (by decide)) (fun _ => ?_)
              refine Go_iload d_M_goesThrough_115 lg3 ?_
              refine Go_if_eq d_M_goesThrough_116 (by decide) (fun h => absurd h (by decide)) (fun _ => ?_)
              refine Go_const d_M_goesThrough_119 ?_
              refine Go_goto d_M_goesThrough_120 ?_
              refine Go_iadd d_M_goesThrough_124 ?_
              refine Go_put d_M_goesThrough_125 (wm_6 _) rfl rfl ?_
              rw [pe_e]
              refine Go_goto d_M_goesThrough_128 ?_
              rw [if_neg (by omega), if_neg (by omega), if_neg (by rw [hd]; dsimp only; omega)] at hg
              rw [hd] at hg
              exact fg4 (fg5 (ih (e + 1) _ _ hNR1 (by omega) (by omega) (by omega) (by omega) hg))
      · refine Go_aload d_M_goesThrough_29 lg0 ⟨_, rfl⟩ ?_
        refine Go_V0i d_M_goesThrough_30 kM (h2_here g3 g4 hT (by omega)) (Nat.le_of_ble_eq_true rfl) ?_
        rintro z1 S1 ⟨hz1, rfl⟩
        have hev := evF_skp (T := T) (L := L) (p := p) h2
        refine Go_if_eq d_M_goesThrough_33 (by omega) (fun h33 => ?_) (fun h33 => ?_)
        · refine Go_iload d_M_goesThrough_131 lg2 ?_
          first
            | (rw [if_pos (by omega)] at hg
               exact Go_zretI d_M_goesThrough_132 (by first | exact Or.inl rfl | exact Or.inr rfl) (by rw [← hg]))
            | (rw [if_neg (by omega), if_pos (by omega)] at hg
               exact Go_zretI d_M_goesThrough_132 (by first | exact Or.inl rfl | exact Or.inr rfl) (by rw [← hg]; try rw [Int.add_zero]))
            | (rw [if_neg (by omega), if_neg (by omega), if_pos (by rw [hd]; dsimp only; omega), hd] at hg
               exact Go_zretI d_M_goesThrough_132 (by first | exact Or.inl rfl | exact Or.inr rfl) (by rw [← hg]; try rw [Int.add_zero]))
        · refine Go_aload d_M_goesThrough_36 lg0 ⟨_, rfl⟩ ?_
          refine Go_V0i d_M_goesThrough_37 kM (h2_event g3 g4 hT (by omega)) (Nat.le_of_ble_eq_true rfl) ?_
          rintro z2 S2 ⟨hz2, rfl⟩
          try rw [hev] at hz2
          try rw [hev]
          refine Go_istore d_M_goesThrough_40 rfl sa4 ?_
          refine Go_iload d_M_goesThrough_42 lg4 ?_
          refine Go_if_lt d_M_goesThrough_44 (by omega) (fun h44 => ?_) (fun h44 => ?_)
          · refine Go_const d_M_goesThrough_51 ?_
            refine Go_istore d_M_goesThrough_52 rfl sa2 ?_
            refine Go_iload d_M_goesThrough_53 lg1 ?_
            refine Go_if_eq d_M_goesThrough_54 (by decide) (fun h => absurd h (by decide)) (fun _ => ?_)
            refine Go_iload d_M_goesThrough_57 lg2 ?_
            refine Go_if_ne d_M_goesThrough_58 (by decide) (fun h => absurd h (by decide)) (fun _ => ?_)
            refine Go_const d_M_goesThrough_61 ?_
            refine Go_goto d_M_goesThrough_62 ?_
            refine Go_istore d_M_goesThrough_93 rfl sa5 ?_
            refine Go_iload d_M_goesThrough_95 lg5 ?_
            refine Go_if_lt d_M_goesThrough_97 (by decide) (fun h => absurd h (by decide)) (fun _ => ?_)
            refine Go_const d_M_goesThrough_100 ?_
            refine Go_goto d_M_goesThrough_101 ?_
            refine Go_istore d_M_goesThrough_105 rfl sa3 ?_
            refine Go_aload d_M_goesThrough_106 lg0 ⟨_, rfl⟩ ?_
            refine Go_dup d_M_goesThrough_107 rfl ?_
            refine Go_get d_M_goesThrough_108 fm_6 ?_
            rw [pe_6]
            refine Go_iload d_M_goesThrough_111 lg2 ?_
            refine Go_if_eq d_M_goesThrough_112 (by decide) (fun _ => ?_) (fun h => absurd h (by decide))
            refine Go_const d_M_goesThrough_123 ?_
            refine Go_iadd d_M_goesThrough_124 ?_
            refine Go_put d_M_goesThrough_125 (wm_6 _) rfl rfl ?_
            rw [pe_e]
            refine Go_goto d_M_goesThrough_128 ?_
            refine Go_iload d_M_goesThrough_14 lg2 ?_
            refine Go_if_eq d_M_goesThrough_15 (by decide) (fun _ => ?_) (fun h => absurd h (by decide))
            refine Go_iload d_M_goesThrough_131 lg2 ?_
            first
              | (rw [if_pos (by omega)] at hg
                 exact Go_zretI d_M_goesThrough_132 (by first | exact Or.inl rfl | exact Or.inr rfl) (by rw [← hg]))
              | (rw [if_neg (by omega), if_pos (by omega)] at hg
                 exact Go_zretI d_M_goesThrough_132 (by first | exact Or.inl rfl | exact Or.inr rfl) (by rw [← hg]; try rw [Int.add_zero]))
              | (rw [if_neg (by omega), if_neg (by omega), if_pos (by rw [hd]; dsimp only; omega), hd] at hg
                 exact Go_zretI d_M_goesThrough_132 (by first | exact Or.inl rfl | exact Or.inr rfl) (by rw [← hg]; try rw [Int.add_zero]))
          · refine Go_const d_M_goesThrough_47 ?_
            refine Go_goto d_M_goesThrough_48 ?_
            refine Go_istore d_M_goesThrough_52 rfl sa2 ?_
            refine Go_iload d_M_goesThrough_53 lg1 ?_
            refine Go_if_eq d_M_goesThrough_54 (by decide) (fun h => absurd h (by decide)) (fun _ => ?_)
            refine Go_iload d_M_goesThrough_57 lg2 ?_
            refine Go_if_ne d_M_goesThrough_58 (by decide) (fun _ => ?_) (fun h => absurd h (by decide))
            refine Go_iload d_M_goesThrough_65 lg4 ?_
            refine Go_const d_M_goesThrough_67 ?_
            refine Go_icmp_ne d_M_goesThrough_69 (by omega) (by omega) (fun h69 => ?_) (fun h69 => ?_)
            · refine Go_aload d_M_goesThrough_79 lg0 ⟨_, rfl⟩ ?_
              refine Go_iload d_M_goesThrough_80 lg4 ?_
              refine Go_const d_M_goesThrough_82 ?_
              refine Go_idiv d_M_goesThrough_84 (by omega) (by omega) ?_
              refine Go_iload d_M_goesThrough_85 lg4 ?_
              refine Go_const d_M_goesThrough_87 ?_
              refine Go_irem d_M_goesThrough_89 (by omega) (by omega) ?_
              refine Go_V2i d_M_goesThrough_90 kM (c_M_comes _ _ (by omega) (by omega) (by rw [eN]; exact hNR)) (Nat.le_of_ble_eq_true rfl) ?_
              rintro z S2 ⟨N1, hz, rfl⟩
              rw [eN] at hz
              have hd : evDo N (evF T L p).1 = (z, N1) := by
                unfold evDo
                rw [if_neg (by omega), ← hz2]
                exact hz.eq
              have hNR1 : NR N1 := by
                have := (evDo_NR (c := (evF T L p).1) hNR (by omega)).1
                rw [hd] at this
                exact this
              have hzr : -3 ≤ z ∧ z ≤ 79 := by
                have := (evDo_NR (c := (evF T L p).1) hNR (by omega)).2
                rw [hd] at this
                exact this
              rw [pe_sR, sR_sR]
              refine Go_istore d_M_goesThrough_93 rfl sa5 ?_
              refine Go_iload d_M_goesThrough_95 lg5 ?_
              refine Go_if_lt d_M_goesThrough_97 (by omega) (fun h97 => ?_) (fun h97 => ?_)
              · refine Go_const d_M_goesThrough_104 ?_
                refine Go_istore d_M_goesThrough_105 rfl sa3 ?_
                refine Go_aload d_M_goesThrough_106 lg0 ⟨_, rfl⟩ ?_
                refine Go_dup d_M_goesThrough_107 rfl ?_
                refine Go_get d_M_goesThrough_108 fm_6 ?_
                rw [pe_6]
                refine Go_iload d_M_goesThrough_111 lg2 ?_
                refine Go_if_eq d_M_goesThrough_112 (by decide) (fun h => absurd h (by decide)) (fun _ => ?_)
                refine Go_iload d_M_goesThrough_115 lg3 ?_
                refine Go_if_eq d_M_goesThrough_116 (by decide) (fun _ => ?_) (fun h => absurd h (by decide))
                refine Go_const d_M_goesThrough_123 ?_
                refine Go_iadd d_M_goesThrough_124 ?_
                refine Go_put d_M_goesThrough_125 (wm_6 _) rfl rfl ?_
                rw [pe_e]
                refine Go_goto d_M_goesThrough_128 ?_
                refine Go_iload d_M_goesThrough_14 lg2 ?_
                refine Go_if_eq d_M_goesThrough_15 (by decide) (fun h => absurd h (by decide)) (fun _ => ?_)
                refine Go_iload d_M_goesThrough_18 lg3 ?_
                refine Go_if_eq d_M_goesThrough_19 (by decide) (fun _ => ?_) (fun h => absurd h (by decide))
                refine Go_iload d_M_goesThrough_131 lg2 ?_
                first
                  | (rw [if_pos (by omega)] at hg
                     exact Go_zretI d_M_goesThrough_132 (by first | exact Or.inl rfl | exact Or.inr rfl) (by rw [← hg]))
                  | (rw [if_neg (by omega), if_pos (by omega)] at hg
                     exact Go_zretI d_M_goesThrough_132 (by first | exact Or.inl rfl | exact Or.inr rfl) (by rw [← hg]; try rw [Int.add_zero]))
                  | (rw [if_neg (by omega), if_neg (by omega), if_pos (by rw [hd]; dsimp only; omega), hd] at hg
                     exact Go_zretI d_M_goesThrough_132 (by first | exact Or.inl rfl | exact Or.inr rfl) (by rw [← hg]; try rw [Int.add_zero]))
              · refine Go_const d_M_goesThrough_100 ?_
                refine Go_goto d_M_goesThrough_101 ?_
                refine Go_istore d_M_goesThrough_105 rfl sa3 ?_
                refine Go_aload d_M_goesThrough_106 lg0 ⟨_, rfl⟩ ?_
                refine Go_dup d_M_goesThrough_107 rfl ?_
                refine Go_get d_M_goesThrough_108 fm_6 ?_
                rw [pe_6]
                refine Go_iload d_M_goesThrough_111 lg2 ?_
                refine Go_if_eq d_M_goesThrough_112 (by decide) (fun h => absurd h (by decide)) (fun _ => ?_)
                refine Go_iload d_M_goesThrough_115 lg3 ?_
                refine Go_if_eq d_M_goesThrough_116 (by decide) (fun h => absurd h (by decide)) (fun _ => ?_)
                refine Go_const d_M_goesThrough_119 ?_
                refine Go_goto d_M_goesThrough_120 ?_
                refine Go_iadd d_M_goesThrough_124 ?_
                refine Go_put d_M_goesThrough_125 (wm_6 _) rfl rfl ?_
                rw [pe_e]
                refine Go_goto d_M_goesThrough_128 ?_
                rw [if_neg (by omega), if_neg (by omega), if_neg (by rw [hd]; dsimp only; omega)] at hg
                rw [hd] at hg
                exact fg4 (fg5 (ih (e + 1) _ _ hNR1 (by omega) (by omega) (by omega) (by omega) hg))
            · refine Go_aload d_M_goesThrough_72 lg0 ⟨_, rfl⟩ ?_
              refine Go_V0i d_M_goesThrough_73 kM (c_M_ticks (by rw [eN]; exact hNR)) (Nat.le_of_ble_eq_true rfl) ?_
              rintro z S2 ⟨N1, hz, rfl⟩
              rw [eN] at hz
              have hd : evDo N (evF T L p).1 = (z, N1) := by
                unfold evDo
                rw [if_pos (by omega)]
                exact hz.eq
              have hNR1 : NR N1 := by
                have := (evDo_NR (c := (evF T L p).1) hNR (by omega)).1
                rw [hd] at this
                exact this
              have hzr : -3 ≤ z ∧ z ≤ 79 := by
                have := (evDo_NR (c := (evF T L p).1) hNR (by omega)).2
                rw [hd] at this
                exact this
              rw [pe_sR, sR_sR]
              refine Go_goto d_M_goesThrough_76 ?_
              refine Go_istore d_M_goesThrough_93 rfl sa5 ?_
              refine Go_iload d_M_goesThrough_95 lg5 ?_
              refine Go_if_lt d_M_goesThrough_97 (by omega) (fun h97 => ?_) (fun h97 => ?_)
              · refine Go_const d_M_goesThrough_104 ?_
                refine Go_istore d_M_goesThrough_105 rfl sa3 ?_
                refine Go_aload d_M_goesThrough_106 lg0 ⟨_, rfl⟩ ?_
                refine Go_dup d_M_goesThrough_107 rfl ?_
                refine Go_get d_M_goesThrough_108 fm_6 ?_
                rw [pe_6]
                refine Go_iload d_M_goesThrough_111 lg2 ?_
                refine Go_if_eq d_M_goesThrough_112 (by decide) (fun h => absurd h (by decide)) (fun _ => ?_)
                refine Go_iload d_M_goesThrough_115 lg3 ?_
                refine Go_if_eq d_M_goesThrough_116 (by decide) (fun _ => ?_) (fun h => absurd h (by decide))
                refine Go_const d_M_goesThrough_123 ?_
                refine Go_iadd d_M_goesThrough_124 ?_
                refine Go_put d_M_goesThrough_125 (wm_6 _) rfl rfl ?_
                rw [pe_e]
                refine Go_goto d_M_goesThrough_128 ?_
                refine Go_iload d_M_goesThrough_14 lg2 ?_
                refine Go_if_eq d_M_goesThrough_15 (by decide) (fun h => absurd h (by decide)) (fun _ => ?_)
                refine Go_iload d_M_goesThrough_18 lg3 ?_
                refine Go_if_eq d_M_goesThrough_19 (by decide) (fun _ => ?_) (fun h => absurd h (by decide))
                refine Go_iload d_M_goesThrough_131 lg2 ?_
                first
                  | (rw [if_pos (by omega)] at hg
                     exact Go_zretI d_M_goesThrough_132 (by first | exact Or.inl rfl | exact Or.inr rfl) (by rw [← hg]))
                  | (rw [if_neg (by omega), if_pos (by omega)] at hg
                     exact Go_zretI d_M_goesThrough_132 (by first | exact Or.inl rfl | exact Or.inr rfl) (by rw [← hg]; try rw [Int.add_zero]))
                  | (rw [if_neg (by omega), if_neg (by omega), if_pos (by rw [hd]; dsimp only; omega), hd] at hg
                     exact Go_zretI d_M_goesThrough_132 (by first | exact Or.inl rfl | exact Or.inr rfl) (by rw [← hg]; try rw [Int.add_zero]))
              · refine Go_const d_M_goesThrough_100 ?_
                refine Go_goto d_M_goesThrough_101 ?_
                refine Go_istore d_M_goesThrough_105 rfl sa3 ?_
                refine Go_aload d_M_goesThrough_106 lg0 ⟨_, rfl⟩ ?_
                refine Go_dup d_M_goesThrough_107 rfl ?_
                refine Go_get d_M_goesThrough_108 fm_6 ?_
                rw [pe_6]
                refine Go_iload d_M_goesThrough_111 lg2 ?_
                refine Go_if_eq d_M_goesThrough_112 (by decide) (fun h => absurd h (by decide)) (fun _ => ?_)
                refine Go_iload d_M_goesThrough_115 lg3 ?_
                refine Go_if_eq d_M_goesThrough_116 (by decide) (fun h => absurd h (by decide)) (fun _ => ?_)
                refine Go_const d_M_goesThrough_119 ?_
                refine Go_goto d_M_goesThrough_120 ?_
                refine Go_iadd d_M_goesThrough_124 ?_
                refine Go_put d_M_goesThrough_125 (wm_6 _) rfl rfl ?_
                rw [pe_e]
                refine Go_goto d_M_goesThrough_128 ?_
                rw [if_neg (by omega), if_neg (by omega), if_neg (by rw [hd]; dsimp only; omega)] at hg
                rw [hd] at hg
                exact fg4 (fg5 (ih (e + 1) _ _ hNR1 (by omega) (by omega) (by omega) (by omega) hg))
  refine Go_aload d_M_goesThrough_0 lg0 ⟨_, rfl⟩ ?_
  refine Go_const d_M_goesThrough_1 ?_
  refine Go_put d_M_goesThrough_2 (wm_5 _) rfl rfl ?_
  refine Go_aload d_M_goesThrough_5 lg0 ⟨_, rfl⟩ ?_
  refine Go_const d_M_goesThrough_6 ?_
  refine Go_put d_M_goesThrough_7 (wm_6 _) rfl rfl ?_
  refine Go_const d_M_goesThrough_10 ?_
  refine Go_istore d_M_goesThrough_11 rfl sa2 ?_
  refine Go_const d_M_goesThrough_12 ?_
  refine Go_istore d_M_goesThrough_13 rfl sa3 ?_
  have := loop 91 0 0 N h (by omega) (by omega) (by omega) (by omega) hR
  rw [← hN, sR_id] at this
  exact this
theorem gth_rg {T : Row} {L : Int} (hT : TOk T L) : ∀ (f : Nat) (e p : Int), 0 ≤ e → e ≤ p → p ≤ L → 0 ≤ (gth T L f e p).2.1 ∧ (gth T L f e p).2.1 ≤ (gth T L f e p).2.2 ∧ (gth T L f e p).2.2 ≤ L ∧ ((gth T L f e p).1 = false → skp T L (gth T L f e p).2.2 = (gth T L f e p).2.2) := by
  intro f
  induction f with
  | zero => intro e p h0 h1 h2; exact ⟨h0, h1, h2, fun h => by cases h⟩
  | succ f ih =>
    intro e p h0 h1 h2
    obtain ⟨v1, v2, v3, v4⟩ := evF_rg hT (p := p) (by omega)
    obtain ⟨a1, a2, a3⟩ := skp_rg (T := T) h2
    unfold gth
    split
    · exact ⟨h0, by dsimp only; omega, a2, fun h => by cases h⟩
    · split
      next hz =>
        refine ⟨h0, by dsimp only; omega, v2, fun _ => ?_⟩
        dsimp only
        revert hz
        unfold evF
        split
        · intro hz; exfalso; dsimp only at hz; omega
        · split
          · intro _; exact skp_id h2
          · next n1 n2 =>
            have s1 := sg_rg hT (show 0 ≤ skp T L p by omega)
            split
            · intro _; exact skp_id (by omega)
            · next n3 =>
              obtain ⟨b1, b2, b3⟩ := skp_rg (T := T) (L := L) (p := skp T L p + 1) (by omega)
              have s2 := sg_rg hT (show 0 ≤ skp T L (skp T L p + 1) by omega)
              split
              · intro _; exact skp_id (by omega)
              · next n4 => intro hz; exfalso; dsimp only at hz; split at hz <;> omega
      · exact ih (e + 1) _ (by omega) (by omega) v2
theorem gthD_e {T : Row} {L : Int} (hT : TOk T L) : ∀ (f : Nat) (e p : Int) (N : Row), 0 ≤ e → e ≤ p → p ≤ L → 0 ≤ (gthD T L f e p N).1 ∧ (gthD T L f e p N).1 ≤ L := by
  intro f
  induction f with
  | zero => intro e p N h0 h1 h2; exact ⟨h0, by show e ≤ L; omega⟩
  | succ f ih =>
    intro e p N h0 h1 h2
    obtain ⟨v1, v2, v3, v4⟩ := evF_rg hT (p := p) (by omega)
    unfold gthD
    split
    · exact ⟨h0, by dsimp only; omega⟩
    · split
      · exact ⟨h0, by dsimp only; omega⟩
      · split
        · exact ⟨h0, by dsimp only; omega⟩
        · exact ih (e + 1) _ _ (by omega) (by omega) v2
theorem noteS_o {S : St} {c j : Nat} (h : ¬ (c = 22 ∧ (j = 7 ∨ j = 8))) : noteS S c j = S c j := by
  funext i
  unfold noteS
  unfold st3 sR
  rw [if_neg (by omega)]
  exact if_neg (by omega)
theorem noteS_pe (S : St) (p e : Int) : noteS (pe S p e) = pe (noteS S) p e := by
  have a7 : pe S p e 22 7 = S 22 7 := pe_r (by decide)
  have a8 : pe S p e 22 8 0 = S 22 8 0 := pe_o (by decide)
  have a0 : pe S p e 22 0 = S 22 0 := pe_r (by decide)
  unfold noteS
  rw [a7, a8, a0]
  funext c j i
  unfold pe st3 sR
  dsimp only
  (repeat' split) <;> first | rfl | omega
theorem c_M_read (h : NR (S 22 0)) (hu : 0 ≤ S 22 8 0 ∧ S 22 8 0 ≤ 6) (hT : TOk (S 22 3) (S 22 4 0)) : Fn G k_M_read [oR G 22] S (PI (fun z S1 => ((gth (S 22 3) (S 22 4 0) 91 0 0).1 = false ∧ z = -20 - (gth (S 22 3) (S 22 4 0) 91 0 0).2.2 ∧ ∃ p e, S1 = st3 (pe S p e) 22 4 0 0) ∨
  ((gth (S 22 3) (S 22 4 0) 91 0 0).1 = true ∧ z = (gthD (S 22 3) (S 22 4 0) 91 0 0 (S 22 0)).1 ∧ ∃ p e, S1 = st3 (pe (sR (noteS S) 22 0 (gthD (S 22 3) (S 22 4 0) 91 0 0 (S 22 0)).2.2) p e) 22 4 0 0))) := by
  have hL := hT.1
  have hrg := gth_rg hT 91 0 0 (by omega) (by omega) (by omega)
  have hde := gthD_e hT 91 0 0 (S 22 0) (by omega) (by omega) (by omega)
  refine Fn.of [some (oR G 22), none, none] 2 rfl (by decide +kernel) rfl (Nat.le_of_ble_eq_true rfl) (by decide) ?_
  refine Go_aload d_M_read_0 lg0 ⟨_, rfl⟩ ?_
  refine Go_const d_M_read_1 ?_
  refine Go_V1i d_M_read_2 kM (c_M_look hT) (Nat.le_of_ble_eq_true rfl) ?_
  rintro z1 S1 ⟨hz1, rfl⟩
  obtain ⟨a1, a2, a3⟩ := skp_rg (T := S 22 3) (L := S 22 4 0) (p := (gth (S 22 3) (S 22 4 0) 91 0 0).2.2) (by omega)
  have s1 := sg_rg hT (show 0 ≤ skp (S 22 3) (S 22 4 0) (gth (S 22 3) (S 22 4 0) 91 0 0).2.2 by omega)
  have hz1' : z1 = 0 ∨ z1 = 1 := by rw [hz1]; split <;> simp
  refine Go_istore d_M_read_5 rfl sa1 ?_
  refine Go_aload d_M_read_6 lg0 ⟨_, rfl⟩ ?_
  refine Go_V0i d_M_read_7 kM (h_M_here hT (by omega)) (Nat.le_of_ble_eq_true rfl) ?_
  rintro z2 S2 ⟨hz2, rfl⟩
  refine Go_if_ne d_M_read_10 (by omega) (fun h10 => ?_) (fun h10 => ?_)
  · refine Go_aload d_M_read_20 lg0 ⟨_, rfl⟩ ?_
    refine Go_get d_M_read_21 fm_5 ?_
    try rw [pe_5]
    refine Go_istore d_M_read_24 rfl sa2 ?_
    refine Go_iload d_M_read_25 lg1 ?_
    refine Go_if_eq d_M_read_26 (by omega) (fun h26 => ?_) (fun h26 => ?_)
    · refine Go_aload d_M_read_39 lg0 ⟨_, rfl⟩ ?_
      refine Go_const d_M_read_40 ?_
      refine Go_put d_M_read_41 (wm_4 _) rfl rfl ?_
      skip
      refine Go_iload d_M_read_44 lg1 ?_
      refine Go_if_eq d_M_read_45 (by omega) (fun h45 => ?_) (fun h45 => ?_)
      · refine Go_const d_M_read_55 ?_
        refine Go_iload d_M_read_57 lg2 ?_
        refine Go_isub d_M_read_58 ?_
        have hg : z1 = 0 ↔ (gth (S 22 3) (S 22 4 0) 91 0 0).1 = false := by
          rw [hz1]
          cases (gth (S 22 3) (S 22 4 0) 91 0 0).1 <;> simp
        have hg1 : z1 ≠ 0 → (gth (S 22 3) (S 22 4 0) 91 0 0).1 = true := by
          intro q
          cases hb : (gth (S 22 3) (S 22 4 0) 91 0 0).1 with
          | true => rfl
          | false => exact absurd (hg.mpr hb) q
        first
          | (exfalso; omega)
          | exact Go_iretI d_M_read_59 (Or.inr ⟨hg1 (by omega), rfl, _, _, by rw [pe_sR, pe_pe]⟩)
          | (have hf := hg.mp (by omega)
             have hs := hrg.2.2.2 hf
             exact Go_iretI d_M_read_59 (Or.inl ⟨hf, by omega, _, _, rfl⟩))
      · refine Go_aload d_M_read_48 lg0 ⟨_, rfl⟩ ?_
        refine Go_get d_M_read_49 fm_6 ?_
        rw [st3_j (by decide), pe_6]
        refine Go_goto d_M_read_52 ?_
        have hg : z1 = 0 ↔ (gth (S 22 3) (S 22 4 0) 91 0 0).1 = false := by
          rw [hz1]
          cases (gth (S 22 3) (S 22 4 0) 91 0 0).1 <;> simp
        have hg1 : z1 ≠ 0 → (gth (S 22 3) (S 22 4 0) 91 0 0).1 = true := by
          intro q
          cases hb : (gth (S 22 3) (S 22 4 0) 91 0 0).1 with
          | true => rfl
          | false => exact absurd (hg.mpr hb) q
        first
          | (exfalso; omega)
          | exact Go_iretI d_M_read_59 (Or.inr ⟨hg1 (by omega), rfl, _, _, by rw [pe_sR, pe_pe]⟩)
          | (have hf := hg.mp (by omega)
             have hs := hrg.2.2.2 hf
             exact Go_iretI d_M_read_59 (Or.inl ⟨hf, by omega, _, _, rfl⟩))
    · refine Go_aload d_M_read_29 lg0 ⟨_, rfl⟩ ?_
      refine Go_V0n d_M_read_30 kM (c_M_notes (by rw [pe_o (by decide)]; exact hu)) (Nat.le_of_ble_eq_true rfl) ?_
      rintro S3 rfl
      rw [noteS_pe]
      refine Go_aload d_M_read_33 lg0 ⟨_, rfl⟩ ?_
      refine Go_const d_M_read_34 ?_
      refine Go_V1i d_M_read_35 kM (c_M_does (T := S 22 3) (L := S 22 4 0) (by rw [pe_r (by decide), noteS_o (by decide)]) (by rw [pe_o (by decide), noteS_o (by decide)]) hT (by rw [pe_r (by decide), noteS_0]) h rfl) (Nat.le_of_ble_eq_true rfl) ?_
      rintro z3 S4 rfl
      refine Go_pop d_M_read_38 rfl ?_
      refine Go_aload d_M_read_39 lg0 ⟨_, rfl⟩ ?_
      refine Go_const d_M_read_40 ?_
      refine Go_put d_M_read_41 (wm_4 _) rfl rfl ?_
      skip
      refine Go_iload d_M_read_44 lg1 ?_
      refine Go_if_eq d_M_read_45 (by omega) (fun h45 => ?_) (fun h45 => ?_)
      · refine Go_const d_M_read_55 ?_
        refine Go_iload d_M_read_57 lg2 ?_
        refine Go_isub d_M_read_58 ?_
        have hg : z1 = 0 ↔ (gth (S 22 3) (S 22 4 0) 91 0 0).1 = false := by
          rw [hz1]
          cases (gth (S 22 3) (S 22 4 0) 91 0 0).1 <;> simp
        have hg1 : z1 ≠ 0 → (gth (S 22 3) (S 22 4 0) 91 0 0).1 = true := by
          intro q
          cases hb : (gth (S 22 3) (S 22 4 0) 91 0 0).1 with
          | true => rfl
          | false => exact absurd (hg.mpr hb) q
        first
          | (exfalso; omega)
          | exact Go_iretI d_M_read_59 (Or.inr ⟨hg1 (by omega), rfl, _, _, by rw [pe_sR, pe_pe]⟩)
          | (have hf := hg.mp (by omega)
             have hs := hrg.2.2.2 hf
             exact Go_iretI d_M_read_59 (Or.inl ⟨hf, by omega, _, _, rfl⟩))
      · refine Go_aload d_M_read_48 lg0 ⟨_, rfl⟩ ?_
        refine Go_get d_M_read_49 fm_6 ?_
        rw [st3_j (by decide), pe_6]
        refine Go_goto d_M_read_52 ?_
        have hg : z1 = 0 ↔ (gth (S 22 3) (S 22 4 0) 91 0 0).1 = false := by
          rw [hz1]
          cases (gth (S 22 3) (S 22 4 0) 91 0 0).1 <;> simp
        have hg1 : z1 ≠ 0 → (gth (S 22 3) (S 22 4 0) 91 0 0).1 = true := by
          intro q
          cases hb : (gth (S 22 3) (S 22 4 0) 91 0 0).1 with
          | true => rfl
          | false => exact absurd (hg.mpr hb) q
        first
          | (exfalso; omega)
          | exact Go_iretI d_M_read_59 (Or.inr ⟨hg1 (by omega), rfl, _, _, by rw [pe_sR, pe_pe]⟩)
          | (have hf := hg.mp (by omega)
             have hs := hrg.2.2.2 hf
             exact Go_iretI d_M_read_59 (Or.inl ⟨hf, by omega, _, _, rfl⟩))
  · refine Go_aload d_M_read_13 lg0 ⟨_, rfl⟩ ?_
    refine Go_get d_M_read_14 fm_4 ?_
    rw [pe_o (by decide)]
    refine Go_goto d_M_read_17 ?_
    try rw [pe_5]
    refine Go_istore d_M_read_24 rfl sa2 ?_
    refine Go_iload d_M_read_25 lg1 ?_
    refine Go_if_eq d_M_read_26 (by omega) (fun h26 => ?_) (fun h26 => ?_)
    · refine Go_aload d_M_read_39 lg0 ⟨_, rfl⟩ ?_
      refine Go_const d_M_read_40 ?_
      refine Go_put d_M_read_41 (wm_4 _) rfl rfl ?_
      skip
      refine Go_iload d_M_read_44 lg1 ?_
      refine Go_if_eq d_M_read_45 (by omega) (fun h45 => ?_) (fun h45 => ?_)
      · refine Go_const d_M_read_55 ?_
        refine Go_iload d_M_read_57 lg2 ?_
        refine Go_isub d_M_read_58 ?_
        have hg : z1 = 0 ↔ (gth (S 22 3) (S 22 4 0) 91 0 0).1 = false := by
          rw [hz1]
          cases (gth (S 22 3) (S 22 4 0) 91 0 0).1 <;> simp
        have hg1 : z1 ≠ 0 → (gth (S 22 3) (S 22 4 0) 91 0 0).1 = true := by
          intro q
          cases hb : (gth (S 22 3) (S 22 4 0) 91 0 0).1 with
          | true => rfl
          | false => exact absurd (hg.mpr hb) q
        first
          | (exfalso; omega)
          | exact Go_iretI d_M_read_59 (Or.inr ⟨hg1 (by omega), rfl, _, _, by rw [pe_sR, pe_pe]⟩)
          | (have hf := hg.mp (by omega)
             have hs := hrg.2.2.2 hf
             exact Go_iretI d_M_read_59 (Or.inl ⟨hf, by omega, _, _, rfl⟩))
      · refine Go_aload d_M_read_48 lg0 ⟨_, rfl⟩ ?_
        refine Go_get d_M_read_49 fm_6 ?_
        rw [st3_j (by decide), pe_6]
        refine Go_goto d_M_read_52 ?_
        have hg : z1 = 0 ↔ (gth (S 22 3) (S 22 4 0) 91 0 0).1 = false := by
          rw [hz1]
          cases (gth (S 22 3) (S 22 4 0) 91 0 0).1 <;> simp
        have hg1 : z1 ≠ 0 → (gth (S 22 3) (S 22 4 0) 91 0 0).1 = true := by
          intro q
          cases hb : (gth (S 22 3) (S 22 4 0) 91 0 0).1 with
          | true => rfl
          | false => exact absurd (hg.mpr hb) q
        first
          | (exfalso; omega)
          | exact Go_iretI d_M_read_59 (Or.inr ⟨hg1 (by omega), rfl, _, _, by rw [pe_sR, pe_pe]⟩)
          | (have hf := hg.mp (by omega)
             have hs := hrg.2.2.2 hf
             exact Go_iretI d_M_read_59 (Or.inl ⟨hf, by omega, _, _, rfl⟩))
    · refine Go_aload d_M_read_29 lg0 ⟨_, rfl⟩ ?_
      refine Go_V0n d_M_read_30 kM (c_M_notes (by rw [pe_o (by decide)]; exact hu)) (Nat.le_of_ble_eq_true rfl) ?_
      rintro S3 rfl
      rw [noteS_pe]
      refine Go_aload d_M_read_33 lg0 ⟨_, rfl⟩ ?_
      refine Go_const d_M_read_34 ?_
      refine Go_V1i d_M_read_35 kM (c_M_does (T := S 22 3) (L := S 22 4 0) (by rw [pe_r (by decide), noteS_o (by decide)]) (by rw [pe_o (by decide), noteS_o (by decide)]) hT (by rw [pe_r (by decide), noteS_0]) h rfl) (Nat.le_of_ble_eq_true rfl) ?_
      rintro z3 S4 rfl
      refine Go_pop d_M_read_38 rfl ?_
      refine Go_aload d_M_read_39 lg0 ⟨_, rfl⟩ ?_
      refine Go_const d_M_read_40 ?_
      refine Go_put d_M_read_41 (wm_4 _) rfl rfl ?_
      skip
      refine Go_iload d_M_read_44 lg1 ?_
      refine Go_if_eq d_M_read_45 (by omega) (fun h45 => ?_) (fun h45 => ?_)
      · refine Go_const d_M_read_55 ?_
        refine Go_iload d_M_read_57 lg2 ?_
        refine Go_isub d_M_read_58 ?_
        have hg : z1 = 0 ↔ (gth (S 22 3) (S 22 4 0) 91 0 0).1 = false := by
          rw [hz1]
          cases (gth (S 22 3) (S 22 4 0) 91 0 0).1 <;> simp
        have hg1 : z1 ≠ 0 → (gth (S 22 3) (S 22 4 0) 91 0 0).1 = true := by
          intro q
          cases hb : (gth (S 22 3) (S 22 4 0) 91 0 0).1 with
          | true => rfl
          | false => exact absurd (hg.mpr hb) q
        first
          | (exfalso; omega)
          | exact Go_iretI d_M_read_59 (Or.inr ⟨hg1 (by omega), rfl, _, _, by rw [pe_sR, pe_pe]⟩)
          | (have hf := hg.mp (by omega)
             have hs := hrg.2.2.2 hf
             exact Go_iretI d_M_read_59 (Or.inl ⟨hf, by omega, _, _, rfl⟩))
      · refine Go_aload d_M_read_48 lg0 ⟨_, rfl⟩ ?_
        refine Go_get d_M_read_49 fm_6 ?_
        rw [st3_j (by decide), pe_6]
        refine Go_goto d_M_read_52 ?_
        have hg : z1 = 0 ↔ (gth (S 22 3) (S 22 4 0) 91 0 0).1 = false := by
          rw [hz1]
          cases (gth (S 22 3) (S 22 4 0) 91 0 0).1 <;> simp
        have hg1 : z1 ≠ 0 → (gth (S 22 3) (S 22 4 0) 91 0 0).1 = true := by
          intro q
          cases hb : (gth (S 22 3) (S 22 4 0) 91 0 0).1 with
          | true => rfl
          | false => exact absurd (hg.mpr hb) q
        first
          | (exfalso; omega)
          | exact Go_iretI d_M_read_59 (Or.inr ⟨hg1 (by omega), rfl, _, _, by rw [pe_sR, pe_pe]⟩)
          | (have hf := hg.mp (by omega)
             have hs := hrg.2.2.2 hf
             exact Go_iretI d_M_read_59 (Or.inl ⟨hf, by omega, _, _, rfl⟩))
/-- rows, past and the last answer of a drift -/
def dS (S : St) (R : Row × Row × Int) (e : Int) : St := st3 (st3 (sR (sR S 22 0 R.1) 22 7 R.2.1) 22 8 0 R.2.2) 22 6 0 e
theorem dS_0 (S : St) (R : Row × Row × Int) (e : Int) : dS S R e 22 0 = R.1 := by funext i; unfold dS; rw [st3_j (by decide), st3_j (by decide), sR_ji (by decide), sR_si]
theorem dS_7 (S : St) (R : Row × Row × Int) (e : Int) : dS S R e 22 7 = R.2.1 := by funext i; unfold dS; rw [st3_j (by decide), st3_j (by decide), sR_si]
theorem dS_8 (S : St) (R : Row × Row × Int) (e : Int) : dS S R e 22 8 0 = R.2.2 := by unfold dS; rw [st3_j (by decide), st3_s]
theorem dS_S (S : St) (R : Row × Row × Int) (e e' : Int) (N : Row) : st3 (sR (noteS (dS S R e)) 22 0 N) 22 6 0 e' = dS S (N, noteA R.2.1 R.2.2 R.1, noteU R.2.2) e' := by
  unfold noteS
  rw [dS_0, dS_7, dS_8]
  funext c j i
  unfold dS st3 sR
  dsimp only
  (repeat' split) <;> first | rfl | omega
theorem c_M_drift (n : Int) (hn : -2147483648 ≤ n ∧ n < 2147483648) (h : NR (S 22 0)) (hu : 0 ≤ S 22 8 0 ∧ S 22 8 0 ≤ 6) : Fn G k_M_drift [oR G 22, vI n] S (PI (fun z S1 => (¬ (1 ≤ n ∧ n ≤ 40) ∧ z = -1 ∧ S1 = S) ∨ ((1 ≤ n ∧ n ≤ 40) ∧ z = (dft n.toNat (S 22 0) (S 22 7) (S 22 8 0)).1 5 ∧ ∃ e, S1 = dS S (dft n.toNat (S 22 0) (S 22 7) (S 22 8 0)) e))) := by
  refine Fn.of [some (oR G 22), some (vI n), none, none, none] 3 rfl (by decide +kernel) rfl (Nat.le_of_ble_eq_true rfl) (by decide) ?_

  have loop := loopI (fun k => (1 ≤ n ∧ n ≤ 40) → ∀ e, Go G k_M_drift 16 [some (oR G 22), some (vI n), some (vI k), none, none] [] (dS S (dft k.toNat (S 22 0) (S 22 7) (S 22 8 0)) e) (PI (fun z S1 => (¬ (1 ≤ n ∧ n ≤ 40) ∧ z = -1 ∧ S1 = S) ∨ ((1 ≤ n ∧ n ≤ 40) ∧ z = (dft n.toNat (S 22 0) (S 22 7) (S 22 8 0)).1 5 ∧ ∃ e, S1 = dS S (dft n.toNat (S 22 0) (S 22 7) (S 22 8 0)) e)))) n ?_ ?_
  refine Go_iload d_M_drift_0 lg1 ?_
  refine Go_i2l d_M_drift_1 (by omega) ?_
  refine Go_lconst d_M_drift_2 ?_
  refine Go_lconst d_M_drift_3 ?_
  refine Go_S3p d_M_drift_6 (c_M_in _ _ _ (by omega) (by omega) (by omega)) (Nat.le_of_ble_eq_true rfl) ?_
  refine Go_ifne_d d_M_drift_9 (fun h9 => ?_) (fun h9 => ?_)
  · refine Go_const d_M_drift_14 ?_
    refine Go_istore d_M_drift_15 rfl sa2 ?_
    have := loop 0 (by omega) (by omega) h9 (S 22 6 0)
    have e : dS S (dft (0 : Int).toNat (S 22 0) (S 22 7) (S 22 8 0)) (S 22 6 0) = S := by
      unfold dS
      show st3 (st3 (sR (sR S 22 0 (S 22 0)) 22 7 (S 22 7)) 22 8 0 (S 22 8 0)) 22 6 0 (S 22 6 0) = S
      rw [sR_id, sR_id, st3_id (x := S 22 8 0) rfl, st3_id rfl]
    rw [e] at this
    exact this
  · refine Go_const d_M_drift_12 ?_
    exact Go_iretI d_M_drift_13 (Or.inl ⟨h9, rfl, rfl⟩)
  · intro hok e
    refine Go_iload d_M_drift_16 lg2 ?_
    refine Go_iload d_M_drift_17 lg1 ?_
    refine Go_icmp_ge d_M_drift_18 (by omega) (by omega) (fun h18 => ?_) (fun h18 => absurd h18 (by omega))
    refine Go_aload d_M_drift_76 lg0 ⟨_, rfl⟩ ?_
    refine Go_get d_M_drift_77 fm_0 ?_
    refine Go_const d_M_drift_80 ?_
    refine Go_ialdC (k0 := 5) d_M_drift_81 am_0 rfl (by decide) ?_
    rw [dS_0]
    exact Go_iretI d_M_drift_82 (Or.inr ⟨hok, rfl, e, rfl⟩)
  · intro k h0 h1 ih hok e
    obtain ⟨q1, q2⟩ := dft_f (A := S 22 7) h hu k.toNat
    have hx := dr_rg ((dft k.toNat (S 22 0) (S 22 7) (S 22 8 0)).1 4)
    have q4 := q1.2.2.2.2.2.1
    refine Go_iload d_M_drift_16 lg2 ?_
    refine Go_iload d_M_drift_17 lg1 ?_
    refine Go_icmp_ge d_M_drift_18 (by omega) (by omega) (fun h18 => absurd h18 (by omega)) (fun h18 => ?_)
    refine Go_aload d_M_drift_21 lg0 ⟨_, rfl⟩ ?_
    refine Go_V0n d_M_drift_22 kM (c_M_notes (by rw [dS_8]; exact q2)) (Nat.le_of_ble_eq_true rfl) ?_
    rintro S1 rfl
    have n0 : noteS (dS S (dft k.toNat (S 22 0) (S 22 7) (S 22 8 0)) e) 22 0 = (dft k.toNat (S 22 0) (S 22 7) (S 22 8 0)).1 := by rw [noteS_0, dS_0]
    refine Go_aload d_M_drift_25 lg0 ⟨_, rfl⟩ ?_
    refine Go_V0i d_M_drift_26 kM (c_M_draws (by rw [n0]; exact q4)) (Nat.le_of_ble_eq_true rfl) ?_
    rintro z S2 ⟨hz0, rfl⟩
    rw [n0] at hz0
    rw [n0]
    subst hz0
    refine Go_istore d_M_drift_29 rfl sa3 ?_
    refine Go_iload d_M_drift_30 lg3 ?_
    refine Go_const d_M_drift_31 ?_
    refine Go_irem d_M_drift_33 (by omega) (by omega) ?_
    refine Go_if_ne d_M_drift_34 (by omega) (fun h34 => ?_) (fun h34 => ?_)
    · refine Go_aload d_M_drift_44 lg0 ⟨_, rfl⟩ ?_
      refine Go_iload d_M_drift_45 lg3 ?_
      refine Go_const d_M_drift_46 ?_
      refine Go_idiv d_M_drift_48 (by omega) (by omega) ?_
      refine Go_const d_M_drift_49 ?_
      refine Go_irem d_M_drift_51 (by omega) (by omega) ?_
      refine Go_iload d_M_drift_52 lg3 ?_
      refine Go_const d_M_drift_53 ?_
      refine Go_idiv d_M_drift_55 (by omega) (by omega) ?_
      refine Go_const d_M_drift_56 ?_
      refine Go_irem d_M_drift_58 (by omega) (by omega) ?_
      refine Go_V2i d_M_drift_59 kM (c_M_comes _ _ (by omega) (by omega) (by rw [sR_s]; exact q1.dr)) (Nat.le_of_ble_eq_true rfl) ?_
      rintro z2 S3 ⟨N1, hz, rfl⟩
      rw [sR_s] at hz
      have hd : dftN (dft k.toNat (S 22 0) (S 22 7) (S 22 8 0)).1 = N1 := by
        unfold dftN
        rw [if_neg (by assumption), hz.eq]
      rw [sR_sR]
      refine Go_istore d_M_drift_62 rfl sa4 ?_
      refine Go_aload d_M_drift_64 lg0 ⟨_, rfl⟩ ?_
      refine Go_iload d_M_drift_65 lg4 ?_
      refine Go_put d_M_drift_67 (wm_6 _) rfl rfl ?_
      refine Go_iinc d_M_drift_70 lg2 rfl sa2 ?_
      refine Go_goto d_M_drift_73 ?_
      rw [dS_S]
      have := ih hok z2
      rw [show (k + 1).toNat = k.toNat + 1 by omega] at this
      simp only [dft] at this
      rw [hd] at this
      exact fg3 (fg4 this)
    · refine Go_aload d_M_drift_37 lg0 ⟨_, rfl⟩ ?_
      refine Go_V0i d_M_drift_38 kM (c_M_ticks (by rw [sR_s]; exact q1.dr)) (Nat.le_of_ble_eq_true rfl) ?_
      rintro z2 S3 ⟨N1, hz, rfl⟩
      rw [sR_s] at hz
      have hd : dftN (dft k.toNat (S 22 0) (S 22 7) (S 22 8 0)).1 = N1 := by
        unfold dftN
        rw [if_pos (by assumption), hz.eq]
      rw [sR_sR]
      refine Go_goto d_M_drift_41 ?_
      refine Go_istore d_M_drift_62 rfl sa4 ?_
      refine Go_aload d_M_drift_64 lg0 ⟨_, rfl⟩ ?_
      refine Go_iload d_M_drift_65 lg4 ?_
      refine Go_put d_M_drift_67 (wm_6 _) rfl rfl ?_
      refine Go_iinc d_M_drift_70 lg2 rfl sa2 ?_
      refine Go_goto d_M_drift_73 ?_
      rw [dS_S]
      have := ih hok z2
      rw [show (k + 1).toNat = k.toNat + 1 by omega] at this
      simp only [dft] at this
      rw [hd] at this
      exact fg3 (fg4 this)
end Model8
