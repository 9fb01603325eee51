/-! ===== class and reference, side by side ===== -/
def IM (S : St) (K KA : Row) (ku : Int) : Prop := Rg K ∧ Rg KA ∧ ((S 0 4 0 = 0 ∧ ku = -1) ∨ (S 0 4 0 = 1 ∧ ku = S 16 2 0 ∧ BR (S 8) K ∧ WF K ∧ PR S 16 KA))
def TP (S : St) (T : Row) (L : Int) : Prop := S 17 0 = T ∧ S 17 1 0 = L ∧ TOk T L
def INV (S : St) : Prop := CS S (S 22 0) (S 22 7) ∧ S 15 2 0 = S 22 8 0 ∧ IM S (S 22 9) (S 22 10) (S 22 11 0) ∧ TP S (S 22 3) (S 22 4 0) ∧ CSh S (S 22 12) (S 22 13) (S 22 14) ∧ ShOk S
theorem IM.fr {S S1 : St} {K KA : Row} {ku : Int} (h : IM S K KA ku) (hf : ∀ c, (c = 0 ∨ c = 8 ∨ c = 16 ∨ (9 ≤ c ∧ c ≤ 14)) → S1 c = S c) : IM S1 K KA ku := by
  obtain ⟨a, b, d⟩ := h
  refine ⟨a, b, ?_⟩
  rw [hf 0 (by decide), hf 8 (by decide), hf 16 (by decide)]
  rcases d with d | ⟨d1, d2, d3, d4, d5⟩
  · exact Or.inl d
  · exact Or.inr ⟨d1, d2, d3, d4, d5.fr16 (fun c hc => hf c (by omega))⟩
theorem TP.fr {S S1 : St} {T : Row} {L : Int} (h : TP S T L) (hf : S1 17 = S 17) : TP S1 T L := by unfold TP; rw [hf]; exact h
theorem ShOk.fr {S S1 : St} (h : ShOk S) (h1 : S1 22 12 = S 22 12) (h2 : S1 22 13 = S 22 13) (h3 : S1 22 14 = S 22 14) : ShOk S1 := by unfold ShOk; rw [h1, h2, h3]; exact h
theorem INV.u {S : St} (h : INV S) : 0 ≤ S 22 8 0 ∧ S 22 8 0 ≤ 6 := by rw [← h.2.1]; exact h.1.2.2.1.2.1
theorem INV.ku {S : St} (h : INV S) : -1 ≤ S 22 11 0 ∧ S 22 11 0 ≤ 6 := by
  rcases h.2.2.1.2.2 with ⟨-, d⟩ | ⟨-, d, -, -, d5⟩
  · rw [d]; decide
  · have := d5.2.1; omega
theorem INV.fr {S S1 : St} (h : INV S) (hf : ∀ c, c ≠ 22 → S1 c = S c) (hg : ∀ j, j ≠ 1 → j ≠ 2 → j ≠ 5 → j ≠ 6 → j ≠ 15 → S1 22 j = S 22 j) : INV S1 := by
  have g : ∀ j, (j = 0 ∨ j = 3 ∨ j = 4 ∨ (7 ≤ j ∧ j ≤ 14)) → S1 22 j = S 22 j := fun j hj => hg j (by omega) (by omega) (by omega) (by omega) (by omega)
  obtain ⟨h1, h2, h3, h4, h5, h6⟩ := h
  unfold INV
  rw [g 0 (by decide), g 7 (by decide), g 8 (by decide), g 9 (by decide), g 10 (by decide), g 11 (by decide), g 3 (by decide), g 4 (by decide), g 12 (by decide), g 13 (by decide), g 14 (by decide), hf 15 (by decide)]
  exact ⟨h1.fr (fun c hc => hf c (by omega)), h2, h3.fr (fun c hc => hf c (by omega)), h4.fr (hf 17 (by decide)), h5.fr (fun c _ _ => hf c (by omega)), h6.fr (g 12 (by decide)) (g 13 (by decide)) (g 14 (by decide))⟩
theorem INV.upd {S S2 : St} (h : INV S) (hf : ∀ c, c ≠ 1 → c ≠ 15 → ¬ (2 ≤ c ∧ c ≤ 7) → c ≠ 22 → S2 c = S c) (hg : ∀ j, (j = 3 ∨ j = 4 ∨ (9 ≤ j ∧ j ≤ 14)) → S2 22 j = S 22 j) (cs : CS S2 (S2 22 0) (S2 22 7)) (u : S2 15 2 0 = S2 22 8 0) : INV S2 := by
  obtain ⟨h1, h2, h3, h4, h5, h6⟩ := h
  unfold INV
  rw [hg 9 (by decide), hg 10 (by decide), hg 11 (by decide), hg 3 (by decide), hg 4 (by decide), hg 12 (by decide), hg 13 (by decide), hg 14 (by decide)]
  exact ⟨cs, u, h3.fr (fun c hc => hf c (by omega) (by omega) (by omega) (by omega)), h4.fr (hf 17 (by decide) (by decide) (by decide) (by decide)), h5.fr (fun c _ _ => hf c (by omega) (by omega) (by omega) (by omega)), h6.fr (hg 12 (by decide)) (hg 13 (by decide)) (hg 14 (by decide))⟩
/-- a state of the reference: field 0 is N, field 7 is A, field 8 is u -/
theorem nst_c {S : St} {N : Row} {c : Nat} (h : c ≠ 22) : sR (noteS S) 22 0 N c = S c := by
  funext j i; unfold noteS; rw [sR_ci h]; unfold st3; rw [if_neg (fun q => h q.1), sR_ci h]
theorem nst_0 (S : St) (N : Row) : sR (noteS S) 22 0 N 22 0 = N := sR_s _ _ _ _
theorem nst_7 (S : St) (N : Row) : sR (noteS S) 22 0 N 22 7 = noteA (S 22 7) (S 22 8 0) (S 22 0) := by
  funext i; rw [sR_ji (by decide)]; unfold noteS; rw [st3_j (by decide), sR_si]
theorem nst_8 (S : St) (N : Row) : sR (noteS S) 22 0 N 22 8 0 = noteU (S 22 8 0) := by rw [sR_ji (by decide)]; unfold noteS; rw [st3_s]
theorem nst_j {S : St} {N : Row} {j : Nat} (h0 : j ≠ 0) (h7 : j ≠ 7) (h8 : j ≠ 8) : sR (noteS S) 22 0 N 22 j = S 22 j := by
  funext i; rw [sR_ji h0]; unfold noteS; rw [st3_j h8, sR_ji h7]
theorem INV.note {S S1 : St} {N1 : Row} (h : INV S) (hC : CS S1 N1 (noteA (S 22 7) (S 15 2 0) (S 22 0))) (hu : S1 15 2 0 = noteU (S 15 2 0)) (hF : FrC S S1) : INV (sR (noteS S1) 22 0 N1) := by
  have e22 : S1 22 = S 22 := hF 22 (by decide) (by decide) (by decide)
  refine h.upd (fun c a b d e => ?_) (fun j hj => ?_) ?_ ?_
  · rw [nst_c e]; exact hF c a b d
  · rw [nst_j (by omega) (by omega) (by omega), e22]
  · rw [nst_0, nst_7, e22, ← h.2.1]
    exact hC.fr (fun c hc => nst_c (by omega))
  · rw [nst_8, nst_c (by decide), e22, hu, h.2.1]
theorem FrC.e22 {S S1 : St} (h : FrC S S1) : S1 22 = S 22 := h 22 (by decide) (by decide) (by decide)
theorem L_come {S S1 S2 : St} {a r z z2 : Int} (h : INV S)
    (q1 : (¬ comeOk a r ∧ z = -1 ∧ S1 = S) ∨ (comeOk a r ∧ (FullP (S 22 0) ∨ 12 ≤ cnt (S 22 0) (S 22 0 5).toNat) ∧ z = -3 ∧ S1 = S) ∨ (comeOk a r ∧ ¬ (FullP (S 22 0) ∨ 12 ≤ cnt (S 22 0) (S 22 0 5).toNat) ∧ ∃ N1, ComeR (S 22 0) a r z N1 ∧ CS S1 N1 (noteA (S 22 7) (S 15 2 0) (S 22 0)) ∧ S1 15 2 0 = noteU (S 15 2 0) ∧ FrC S S1))
    (q2 : (¬ comeOk a r ∧ z2 = -1 ∧ S2 = S1) ∨ (comeOk a r ∧ (FullP (S1 22 0) ∨ 12 ≤ cnt (S1 22 0) (S1 22 0 5).toNat) ∧ z2 = -3 ∧ S2 = S1) ∨ (comeOk a r ∧ ¬ (FullP (S1 22 0) ∨ 12 ≤ cnt (S1 22 0) (S1 22 0 5).toNat) ∧ ∃ N1, ComeR (S1 22 0) a r z2 N1 ∧ S2 = sR (noteS S1) 22 0 N1)) : z = z2 ∧ INV S2 := by
  rcases q1 with ⟨a1, rfl, rfl⟩ | ⟨a1, a2, rfl, rfl⟩ | ⟨a1, a2, N1, a3, a4, a5, a6⟩
  · rcases q2 with ⟨b1, rfl, rfl⟩ | ⟨b1, -⟩ | ⟨b1, -⟩
    · exact ⟨rfl, h⟩
    · exact absurd b1 a1
    · exact absurd b1 a1
  · rcases q2 with ⟨b1, -⟩ | ⟨b1, b2, rfl, rfl⟩ | ⟨b1, b2, -⟩
    · exact absurd a1 b1
    · exact ⟨rfl, h⟩
    · exact absurd a2 b2
  · rw [a6.e22] at q2
    rcases q2 with ⟨b1, -⟩ | ⟨b1, b2, -⟩ | ⟨b1, b2, N2, b3, rfl⟩
    · exact absurd a1 b1
    · exact absurd b2 a2
    · obtain ⟨rfl, rfl⟩ := a3.uniq b3
      exact ⟨rfl, h.note a4 a5 a6⟩
theorem L_tick {S S1 S2 : St} {z z2 : Int} (h : INV S)
    (q1 : (FullP (S 22 0) ∧ z = -3 ∧ S1 = S) ∨ (¬ FullP (S 22 0) ∧ ∃ N1, TickR (S 22 0) z N1 ∧ CS S1 N1 (noteA (S 22 7) (S 15 2 0) (S 22 0)) ∧ S1 15 2 0 = noteU (S 15 2 0) ∧ FrC S S1))
    (q2 : (FullP (S1 22 0) ∧ z2 = -3 ∧ S2 = S1) ∨ (¬ FullP (S1 22 0) ∧ ∃ N1, TickR (S1 22 0) z2 N1 ∧ S2 = sR (noteS S1) 22 0 N1)) : z = z2 ∧ INV S2 := by
  rcases q1 with ⟨a2, rfl, rfl⟩ | ⟨a2, N1, a3, a4, a5, a6⟩
  · rcases q2 with ⟨b2, rfl, rfl⟩ | ⟨b2, -⟩
    · exact ⟨rfl, h⟩
    · exact absurd a2 b2
  · rw [a6.e22] at q2
    rcases q2 with ⟨b2, -⟩ | ⟨b2, N2, b3, rfl⟩
    · exact absurd b2 a2
    · obtain ⟨rfl, rfl⟩ := a3.uniq b3
      exact ⟨rfl, h.note a4 a5 a6⟩
theorem L_tell {S S1 S2 : St} {v x z z2 : Int} (h : INV S)
    (q1 : (¬ toldOk v x ∧ z = -1 ∧ S1 = S) ∨ (toldOk v x ∧ S 22 0 v.toNat = x ∧ z = -2 ∧ S1 = S) ∨ (toldOk v x ∧ S 22 0 v.toNat ≠ x ∧ z = S 22 0 v.toNat ∧ CS S1 (up (S 22 0) v.toNat x) (noteA (S 22 7) (S 15 2 0) (S 22 0)) ∧ S1 15 2 0 = noteU (S 15 2 0) ∧ FrC S S1))
    (q2 : (¬ toldOk v x ∧ z2 = -1 ∧ S2 = S1) ∨ (toldOk v x ∧ S1 22 0 v.toNat = x ∧ z2 = -2 ∧ S2 = S1) ∨ (toldOk v x ∧ S1 22 0 v.toNat ≠ x ∧ z2 = S1 22 0 v.toNat ∧ S2 = sR (noteS S1) 22 0 (up (S1 22 0) v.toNat x))) : z = z2 ∧ INV S2 := by
  rcases q1 with ⟨a1, rfl, rfl⟩ | ⟨a1, a2, rfl, rfl⟩ | ⟨a1, a2, a3, a4, a5, a6⟩
  · rcases q2 with ⟨b1, rfl, rfl⟩ | ⟨b1, -⟩ | ⟨b1, -⟩
    · exact ⟨rfl, h⟩
    · exact absurd b1 a1
    · exact absurd b1 a1
  · rcases q2 with ⟨b1, -⟩ | ⟨b1, b2, rfl, rfl⟩ | ⟨b1, b2, -⟩
    · exact absurd a1 b1
    · exact ⟨rfl, h⟩
    · exact absurd a2 b2
  · rw [a6.e22] at q2
    rcases q2 with ⟨b1, -⟩ | ⟨b1, b2, -⟩ | ⟨b1, b2, b3, rfl⟩
    · exact absurd a1 b1
    · exact absurd b2 a2
    · exact ⟨by rw [a3, b3], h.note a4 a5 a6⟩
theorem L_begin {S S1 S2 : St} {z z2 : Int} (h : INV S)
    (q1 : (S 22 0 5 = 0 ∧ z = -2 ∧ S1 = S) ∨ (S 22 0 5 ≠ 0 ∧ z = S 22 0 5 ∧ CS S1 (begN (S 22 0)) (noteA (S 22 7) (S 15 2 0) (S 22 0)) ∧ S1 15 2 0 = noteU (S 15 2 0) ∧ FrC S S1))
    (q2 : (S1 22 0 5 = 0 ∧ z2 = -2 ∧ S2 = S1) ∨ (S1 22 0 5 ≠ 0 ∧ z2 = S1 22 0 5 ∧ S2 = sR (noteS S1) 22 0 (up (up (S1 22 0) 5 0) 6 0))) : z = z2 ∧ INV S2 := by
  rcases q1 with ⟨a2, rfl, rfl⟩ | ⟨a2, a3, a4, a5, a6⟩
  · rcases q2 with ⟨b2, rfl, rfl⟩ | ⟨b2, -⟩
    · exact ⟨rfl, h⟩
    · exact absurd a2 b2
  · rw [a6.e22] at q2
    rcases q2 with ⟨b2, -⟩ | ⟨b2, b3, rfl⟩
    · exact absurd b2 a2
    · exact ⟨by rw [a3, b3], h.note a4 a5 a6⟩
theorem L_seed {S S1 S2 : St} {v z z2 : Int} (h : INV S)
    (q1 : (v < 0 ∧ z = -1 ∧ S1 = S) ∨ (0 ≤ v ∧ z = S 22 0 4 ∧ CS S1 (up (S 22 0) 4 v) (S 22 7) ∧ S1 15 2 0 = S 15 2 0 ∧ FrC S S1))
    (q2 : (v < 0 ∧ z2 = -1 ∧ S2 = S1) ∨ (0 ≤ v ∧ z2 = S1 22 0 4 ∧ S2 = sR S1 22 0 (up (S1 22 0) 4 v))) : z = z2 ∧ INV S2 := by
  rcases q1 with ⟨a2, rfl, rfl⟩ | ⟨a2, a3, a4, a5, a6⟩
  · rcases q2 with ⟨b2, rfl, rfl⟩ | ⟨b2, -⟩
    · exact ⟨rfl, h⟩
    · omega
  · have e22 := a6.e22
    rw [e22] at q2
    rcases q2 with ⟨b2, -⟩ | ⟨b2, b3, rfl⟩
    · omega
    · refine ⟨by rw [a3, b3], h.upd (fun c a b d e => ?_) (fun j hj => ?_) ?_ ?_⟩
      · have : sR S1 22 0 (up (S 22 0) 4 v) c = S1 c := by funext j; exact sR_c e
        rw [this]; exact a6 c a b d
      · rw [sR_j (by omega), e22]
      · rw [sR_s, sR_j (by decide), e22]
        exact a4.fr (fun c hc => by funext j; exact sR_c (by omega))
      · rw [sR_ci (by decide), sR_ji (by decide), e22, a5]; exact h.2.1
theorem L_undo {S S1 S2 : St} {z z2 : Int} (h : INV S)
    (q1 : (S 15 2 0 = 0 ∧ z = -4 ∧ S1 = S) ∨ (S 15 2 0 ≠ 0 ∧ z = S 15 2 0 - 1 ∧ CS S1 (cpR (S 22 0) (fun k => S 22 7 ((402 * (S 15 2 0 - 1)).toNat + k)) 0 402) (S 22 7) ∧ S1 15 2 0 = S 15 2 0 - 1 ∧ FrC S S1))
    (q2 : (S1 22 8 0 = 0 ∧ z2 = -4 ∧ S2 = S1) ∨ (S1 22 8 0 ≠ 0 ∧ z2 = S1 22 8 0 - 1 ∧ S2 = sR (st3 S1 22 8 0 (S1 22 8 0 - 1)) 22 0 (cpR (S1 22 0) (fun k => S1 22 7 ((402 * (S1 22 8 0 - 1)).toNat + k)) 0 402))) : z = z2 ∧ INV S2 := by
  have hu := h.2.1
  rcases q1 with ⟨a2, rfl, rfl⟩ | ⟨a2, a3, a4, a5, a6⟩
  · rcases q2 with ⟨b2, rfl, rfl⟩ | ⟨b2, -⟩
    · exact ⟨rfl, h⟩
    · omega
  · have e22 := a6.e22
    rw [e22] at q2
    rw [hu] at a4
    rcases q2 with ⟨b2, -⟩ | ⟨b2, b3, rfl⟩
    · omega
    · have ec : ∀ c, c ≠ 22 → sR (st3 S1 22 8 0 (S 22 8 0 - 1)) 22 0 (cpR (S 22 0) (fun k => S 22 7 ((402 * (S 22 8 0 - 1)).toNat + k)) 0 402) c = S1 c := fun c hc => by
        funext j i; rw [sR_ci hc]; unfold st3; rw [if_neg (fun q => hc q.1)]
      refine ⟨by omega, h.upd (fun c a b d e => ?_) (fun j hj => ?_) ?_ ?_⟩
      · rw [ec c e]; exact a6 c a b d
      · funext i; rw [sR_ji (by omega), st3_j (by omega), e22]
      · have e7 : sR (st3 S1 22 8 0 (S 22 8 0 - 1)) 22 0 (cpR (S 22 0) (fun k => S 22 7 ((402 * (S 22 8 0 - 1)).toNat + k)) 0 402) 22 7 = S 22 7 := by
          funext i; rw [sR_ji (by decide), st3_j (by decide), e22]
        rw [sR_s, e7]
        exact a4.fr (fun c hc => ec c (by omega))
      · rw [ec 15 (by decide), sR_ji (by decide), st3_s]; omega
theorem L_drift {S S1 S2 : St} {n z z2 : Int} (h : INV S)
    (q1 : (¬ (1 ≤ n ∧ n ≤ 40) ∧ z = -1 ∧ S1 = S) ∨ ((1 ≤ n ∧ n ≤ 40) ∧ z = (dft n.toNat (S 22 0) (S 22 7) (S 15 2 0)).1 5 ∧ CS S1 (dft n.toNat (S 22 0) (S 22 7) (S 15 2 0)).1 (dft n.toNat (S 22 0) (S 22 7) (S 15 2 0)).2.1 ∧ S1 15 2 0 = (dft n.toNat (S 22 0) (S 22 7) (S 15 2 0)).2.2 ∧ FrC S S1))
    (q2 : (¬ (1 ≤ n ∧ n ≤ 40) ∧ z2 = -1 ∧ S2 = S1) ∨ ((1 ≤ n ∧ n ≤ 40) ∧ z2 = (dft n.toNat (S1 22 0) (S1 22 7) (S1 22 8 0)).1 5 ∧ ∃ e, S2 = dS S1 (dft n.toNat (S1 22 0) (S1 22 7) (S1 22 8 0)) e)) : z = z2 ∧ INV S2 := by
  rcases q1 with ⟨a2, rfl, rfl⟩ | ⟨a2, a3, a4, a5, a6⟩
  · rcases q2 with ⟨b2, rfl, rfl⟩ | ⟨b2, -⟩
    · exact ⟨rfl, h⟩
    · exact absurd b2 a2
  · have e22 := a6.e22
    rw [e22] at q2
    rcases q2 with ⟨b2, -⟩ | ⟨b2, b3, e, rfl⟩
    · exact absurd a2 b2
    · rw [h.2.1] at a3 a4 a5
      generalize dft n.toNat (S 22 0) (S 22 7) (S 22 8 0) = R at a3 a4 a5 b3
      have ec : ∀ c, c ≠ 22 → dS S1 R e c = S1 c := fun c hc => by
        funext j i; unfold dS st3 sR; simp [hc]
      refine ⟨by rw [a3, b3], h.upd (fun c a b d e => ?_) (fun j hj => ?_) ?_ ?_⟩
      · rw [ec c e]; exact a6 c a b d
      · rw [← e22]; funext i; unfold dS; rw [st3_j (by omega), st3_j (by omega), sR_ji (by omega), sR_ji (by omega)]
      · rw [dS_0, dS_7]
        exact a4.fr (fun c hc => ec c (by omega))
      · rw [dS_8, ec 15 (by decide), a5]
theorem L_type {S S1 S2 : St} {x z z2 : Int} (h : INV S)
    (q1 : (¬ (32 ≤ x ∧ x ≤ 126) ∧ z = -1 ∧ S1 = S) ∨ ((32 ≤ x ∧ x ≤ 126) ∧ S 17 1 0 = 90 ∧ z = -3 ∧ S1 = S) ∨ ((32 ≤ x ∧ x ≤ 126) ∧ S 17 1 0 < 90 ∧ z = S 17 1 0 + 1 ∧ S1 = st3 (st3 S 17 0 (S 17 1 0).toNat x) 17 1 0 (S 17 1 0 + 1)))
    (q2 : (¬ (32 ≤ x ∧ x ≤ 126) ∧ z2 = -1 ∧ S2 = S1) ∨ ((32 ≤ x ∧ x ≤ 126) ∧ S1 22 4 0 = 90 ∧ z2 = -3 ∧ S2 = S1) ∨ ((32 ≤ x ∧ x ≤ 126) ∧ S1 22 4 0 < 90 ∧ z2 = S1 22 4 0 + 1 ∧ S2 = st3 (st3 S1 22 3 (S1 22 4 0).toNat x) 22 4 0 (S1 22 4 0 + 1))) : z = z2 ∧ INV S2 := by
  obtain ⟨h1, h2, h3, ⟨t1, t2, t3⟩, h5, h6⟩ := id h
  rcases q1 with ⟨a1, rfl, rfl⟩ | ⟨a1, a2, rfl, rfl⟩ | ⟨a1, a2, a3, rfl⟩
  · rcases q2 with ⟨b1, rfl, rfl⟩ | ⟨b1, -⟩ | ⟨b1, -⟩
    · exact ⟨rfl, h⟩
    · exact absurd b1 a1
    · exact absurd b1 a1
  · rcases q2 with ⟨b1, -⟩ | ⟨b1, b2, rfl, rfl⟩ | ⟨b1, b2, -⟩
    · exact absurd a1 b1
    · exact ⟨rfl, h⟩
    · omega
  · have e22 : st3 (st3 S 17 0 (S 17 1 0).toNat x) 17 1 0 (S 17 1 0 + 1) 22 = S 22 := by rw [st3_sB, sB_c (by decide), st3_sB, sB_c (by decide)]
    rw [e22] at q2
    rcases q2 with ⟨b1, -⟩ | ⟨b1, b2, -⟩ | ⟨b1, b2, b3, rfl⟩
    · exact absurd a1 b1
    · omega
    · refine ⟨by omega, ?_⟩
      generalize hS1 : st3 (st3 S 17 0 (S 17 1 0).toNat x) 17 1 0 (S 17 1 0 + 1) = S1 at e22
      have f1 : ∀ c, c ≠ 17 → S1 c = S c := fun c hc => by rw [← hS1, st3_sB, sB_c hc, st3_sB, sB_c hc]
      have f2 : ∀ c, c ≠ 17 → c ≠ 22 → st3 (st3 S1 22 3 (S 22 4 0).toNat x) 22 4 0 (S 22 4 0 + 1) c = S c := fun c hc hd => by rw [st3_sB, sB_c hd, st3_sB, sB_c hd]; exact f1 c hc
      have f3 : ∀ j, j ≠ 3 → j ≠ 4 → st3 (st3 S1 22 3 (S 22 4 0).toNat x) 22 4 0 (S 22 4 0 + 1) 22 j = S 22 j := fun j h3 h4 => by funext i; rw [st3_j h4, st3_j h3, e22]
      have f17 : st3 (st3 S1 22 3 (S 22 4 0).toNat x) 22 4 0 (S 22 4 0 + 1) 17 = S1 17 := by rw [st3_sB, sB_c (by decide), st3_sB, sB_c (by decide)]
      have f4 : st3 (st3 S1 22 3 (S 22 4 0).toNat x) 22 4 0 (S 22 4 0 + 1) 22 3 = up (S 22 3) (S 22 4 0).toNat x := by funext i; rw [st3_j (by decide), st3_sR, sR_si, e22]
      have f5 : st3 (st3 S1 22 3 (S 22 4 0).toNat x) 22 4 0 (S 22 4 0 + 1) 22 4 0 = S 22 4 0 + 1 := st3_s _ _ _ _ _
      generalize st3 (st3 S1 22 3 (S 22 4 0).toNat x) 22 4 0 (S 22 4 0 + 1) = S2 at f2 f3 f17 f4 f5
      unfold INV
      rw [f4, f5, f3 0 (by decide) (by decide), f3 7 (by decide) (by decide), f3 8 (by decide) (by decide), f3 9 (by decide) (by decide), f3 10 (by decide) (by decide), f3 11 (by decide) (by decide), f3 12 (by decide) (by decide), f3 13 (by decide) (by decide), f3 14 (by decide) (by decide), f2 15 (by decide) (by decide)]
      refine ⟨h1.fr (fun c hc => f2 c (by omega) (by omega)), h2, h3.fr (fun c hc => f2 c (by omega) (by omega)), ⟨?_, ?_, ?_⟩, h5.fr (fun c _ _ => f2 c (by omega) (by omega)), h6.fr (f3 12 (by decide) (by decide)) (f3 13 (by decide) (by decide)) (f3 14 (by decide) (by decide))⟩
      · rw [f17, ← hS1]; funext i; rw [st3_j (by decide), st3_sR, sR_si, t1, t2]
      · rw [f17, ← hS1, st3_s, t2]
      · refine ⟨by have := t3.1; omega, fun k hk => ?_⟩
        unfold up
        have := t3.1
        split
        · omega
        · exact t3.2 k (by omega)
theorem pe_c {S : St} {p e : Int} {c : Nat} (h : c ≠ 22) : pe S p e c = S c := by unfold pe; rw [st3_sB, sB_c h, st3_sB, sB_c h]
theorem pe_j {S : St} {p e : Int} {j : Nat} (h : j ≠ 5) (h6 : j ≠ 6) : pe S p e 22 j = S 22 j := by funext i; unfold pe; rw [st3_j h6, st3_j h]
/-- the tape is empty again -/
theorem INV.tape {S S2 : St} (h : INV S) (hf : ∀ c, c ≠ 1 → c ≠ 15 → c ≠ 17 → ¬ (2 ≤ c ∧ c ≤ 7) → c ≠ 22 → S2 c = S c) (hg : ∀ j, (j = 3 ∨ (9 ≤ j ∧ j ≤ 14)) → S2 22 j = S 22 j) (cs : CS S2 (S2 22 0) (S2 22 7)) (u : S2 15 2 0 = S2 22 8 0) (t0 : S2 17 0 = S 17 0) (t1 : S2 17 1 0 = 0) (t2 : S2 22 4 0 = 0) : INV S2 := by
  obtain ⟨h1, h2, h3, ⟨k1, k2, k3⟩, h5, h6⟩ := h
  unfold INV
  rw [hg 9 (by decide), hg 10 (by decide), hg 11 (by decide), hg 3 (by decide), t2, hg 12 (by decide), hg 13 (by decide), hg 14 (by decide)]
  exact ⟨cs, u, h3.fr (fun c hc => hf c (by omega) (by omega) (by omega) (by omega) (by omega)), ⟨by rw [t0]; exact k1, t1, by omega, fun k hk => by omega⟩, h5.fr (fun c _ _ => hf c (by omega) (by omega) (by omega) (by omega) (by omega)), h6.fr (hg 12 (by decide)) (hg 13 (by decide)) (hg 14 (by decide))⟩
theorem L_read {S S1 S2 : St} {GR : Bool × Int × Int} {DR : Int × Int × Row} {z z2 : Int} (h : INV S)
    (q1 : (GR.1 = false ∧ z = -20 - GR.2.2 ∧ CS S1 (S 22 0) (S 22 7) ∧ S1 15 2 0 = S 15 2 0 ∧ (S1 17 0 = S 17 0 ∧ S1 17 1 0 = 0 ∧ ∀ c, c ≠ 1 → c ≠ 15 → c ≠ 17 → ¬ (2 ≤ c ∧ c ≤ 7) → S1 c = S c)) ∨ (GR.1 = true ∧ z = DR.1 ∧ CS S1 DR.2.2 (noteA (S 22 7) (S 15 2 0) (S 22 0)) ∧ S1 15 2 0 = noteU (S 15 2 0) ∧ (S1 17 0 = S 17 0 ∧ S1 17 1 0 = 0 ∧ ∀ c, c ≠ 1 → c ≠ 15 → c ≠ 17 → ¬ (2 ≤ c ∧ c ≤ 7) → S1 c = S c)))
    (q2 : (GR.1 = false ∧ z2 = -20 - GR.2.2 ∧ ∃ p e, S2 = st3 (pe S1 p e) 22 4 0 0) ∨ (GR.1 = true ∧ z2 = DR.1 ∧ ∃ p e, S2 = st3 (pe (sR (noteS S1) 22 0 DR.2.2) p e) 22 4 0 0)) : z = z2 ∧ INV S2 := by
  rcases q1 with ⟨a1, a2, a3, a4, a5, a6, a7⟩ | ⟨a1, a2, a3, a4, a5, a6, a7⟩
  · have e22 : S1 22 = S 22 := a7 22 (by decide) (by decide) (by decide) (by decide)
    rcases q2 with ⟨b1, b2, p, e, rfl⟩ | ⟨b1, -⟩
    · have ec : ∀ c, c ≠ 22 → st3 (pe S1 p e) 22 4 0 0 c = S1 c := fun c hc => by rw [st3_sB, sB_c hc, pe_c hc]
      have ej : ∀ j, j ≠ 4 → j ≠ 5 → j ≠ 6 → st3 (pe S1 p e) 22 4 0 0 22 j = S 22 j := fun j h4 h5 h6 => by funext i; rw [st3_j h4, pe_j h5 h6, e22]
      refine ⟨by rw [a2, b2], h.tape (fun c c1 c2 c3 c4 c5 => ?_) (fun j hj => ej j (by omega) (by omega) (by omega)) ?_ ?_ ?_ ?_ (st3_s _ _ _ _ _)⟩
      · rw [ec c c5]; exact a7 c c1 c2 c3 c4
      · rw [ej 0 (by decide) (by decide) (by decide), ej 7 (by decide) (by decide) (by decide)]
        exact a3.fr (fun c hc => ec c (by omega))
      · rw [ec 15 (by decide), ej 8 (by decide) (by decide) (by decide), a4]; exact h.2.1
      · rw [ec 17 (by decide)]; exact a5
      · rw [ec 17 (by decide)]; exact a6
    · rw [a1] at b1; cases b1
  · have e22 : S1 22 = S 22 := a7 22 (by decide) (by decide) (by decide) (by decide)
    rcases q2 with ⟨b1, -⟩ | ⟨b1, b2, p, e, rfl⟩
    · rw [a1] at b1; cases b1
    · have ec : ∀ c, c ≠ 22 → st3 (pe (sR (noteS S1) 22 0 DR.2.2) p e) 22 4 0 0 c = S1 c := fun c hc => by rw [st3_sB, sB_c hc, pe_c hc, nst_c hc]
      have ej : ∀ j, j ≠ 4 → j ≠ 5 → j ≠ 6 → st3 (pe (sR (noteS S1) 22 0 DR.2.2) p e) 22 4 0 0 22 j = sR (noteS S1) 22 0 DR.2.2 22 j := fun j h4 h5 h6 => by funext i; rw [st3_j h4, pe_j h5 h6]
      refine ⟨by rw [a2, b2], h.tape (fun c c1 c2 c3 c4 c5 => ?_) (fun j hj => ?_) ?_ ?_ ?_ ?_ (st3_s _ _ _ _ _)⟩
      · rw [ec c c5]; exact a7 c c1 c2 c3 c4
      · rw [ej j (by omega) (by omega) (by omega), nst_j (by omega) (by omega) (by omega), e22]
      · rw [ej 0 (by decide) (by decide) (by decide), ej 7 (by decide) (by decide) (by decide), nst_0, nst_7, e22, ← h.2.1]
        exact a3.fr (fun c hc => ec c (by omega))
      · rw [ec 15 (by decide), ej 8 (by decide) (by decide) (by decide), nst_8, e22, a4, h.2.1]
      · rw [ec 17 (by decide)]; exact a5
      · rw [ec 17 (by decide)]; exact a6
theorem L_image {S S1 S2 : St} {z z2 : Int} (h : INV S)
    (q1 : z = 1 ∧ BR (S1 8) (S 22 0) ∧ PR S1 16 (S 22 7) ∧ S1 16 2 0 = S 15 2 0 ∧ S1 0 = ub (S 0) 4 0 1 ∧ ∀ c, c ≠ 0 → c ≠ 8 → c ≠ 16 → ¬ (9 ≤ c ∧ c ≤ 14) → S1 c = S c)
    (q2 : z2 = 1 ∧ S2 = st3 (sR (sR S1 22 9 (cpR (S1 22 9) (S1 22 0) 0 402)) 22 10 (cpR (S1 22 10) (S1 22 7) 0 2412)) 22 11 0 (S1 22 8 0)) : z = z2 ∧ INV S2 := by
  obtain ⟨a1, a2, a3, a4, a5, a6⟩ := q1
  have e22 : S1 22 = S 22 := a6 22 (by decide) (by decide) (by decide) (by decide)
  rw [e22] at q2
  obtain ⟨b1, rfl⟩ := q2
  refine ⟨by rw [a1, b1], ?_⟩
  obtain ⟨h1, h2, h3, h4, h5, h6⟩ := h
  have ec : ∀ c, c ≠ 22 → st3 (sR (sR S1 22 9 (cpR (S 22 9) (S 22 0) 0 402)) 22 10 (cpR (S 22 10) (S 22 7) 0 2412)) 22 11 0 (S 22 8 0) c = S1 c := fun c hc => by
    funext j i; unfold st3 sR; simp [hc]
  have ej : ∀ j, j ≠ 9 → j ≠ 10 → j ≠ 11 → st3 (sR (sR S1 22 9 (cpR (S 22 9) (S 22 0) 0 402)) 22 10 (cpR (S 22 10) (S 22 7) 0 2412)) 22 11 0 (S 22 8 0) 22 j = S 22 j := fun j g9 g10 g11 => by
    funext i; rw [st3_j g11, sR_ji g10, sR_ji g9, e22]
  have e9 : st3 (sR (sR S1 22 9 (cpR (S 22 9) (S 22 0) 0 402)) 22 10 (cpR (S 22 10) (S 22 7) 0 2412)) 22 11 0 (S 22 8 0) 22 9 = cpR (S 22 9) (S 22 0) 0 402 := by
    funext i; rw [st3_j (by decide), sR_ji (by decide), sR_si]
  have e10 : st3 (sR (sR S1 22 9 (cpR (S 22 9) (S 22 0) 0 402)) 22 10 (cpR (S 22 10) (S 22 7) 0 2412)) 22 11 0 (S 22 8 0) 22 10 = cpR (S 22 10) (S 22 7) 0 2412 := by
    funext i; rw [st3_j (by decide), sR_si]
  have e11 : st3 (sR (sR S1 22 9 (cpR (S 22 9) (S 22 0) 0 402)) 22 10 (cpR (S 22 10) (S 22 7) 0 2412)) 22 11 0 (S 22 8 0) 22 11 0 = S 22 8 0 := st3_s _ _ _ _ _
  generalize st3 (sR (sR S1 22 9 (cpR (S 22 9) (S 22 0) 0 402)) 22 10 (cpR (S 22 10) (S 22 7) 0 2412)) 22 11 0 (S 22 8 0) = S2 at ec ej e9 e10 e11
  have hx : ∀ x, x < 402 → cpR (S 22 9) (S 22 0) 0 402 x = S 22 0 x := fun x hx => by unfold cpR; rw [if_pos (by omega)]; rfl
  have hx2 : ∀ x, x < 2412 → cpR (S 22 10) (S 22 7) 0 2412 x = S 22 7 x := fun x hx => by unfold cpR; rw [if_pos (by omega)]; rfl
  have r9 : Rg (cpR (S 22 9) (S 22 0) 0 402) := h3.1.cp h1.2.1.1.1 _ _
  have r10 : Rg (cpR (S 22 10) (S 22 7) 0 2412) := h3.2.1.cp h1.2.2.2 _ _
  unfold INV
  rw [e9, e10, e11, ej 0 (by decide) (by decide) (by decide), ej 7 (by decide) (by decide) (by decide), ej 8 (by decide) (by decide) (by decide), ej 3 (by decide) (by decide) (by decide), ej 4 (by decide) (by decide) (by decide), ej 12 (by decide) (by decide) (by decide), ej 13 (by decide) (by decide) (by decide), ej 14 (by decide) (by decide) (by decide)]
  refine ⟨h1.fr (fun c hc => ?_), ?_, ⟨r9, r10, Or.inr ⟨?_, ?_, ?_, h1.2.1.eq402 hx r9, ?_⟩⟩, h4.fr ?_, h5.fr (fun c d e => ?_), h6.fr (ej 12 (by decide) (by decide) (by decide)) (ej 13 (by decide) (by decide) (by decide)) (ej 14 (by decide) (by decide) (by decide))⟩
  · rw [ec c (by omega)]; exact a6 c (by omega) (by omega) (by omega) (by omega)
  · rw [ec 15 (by decide), a6 15 (by decide) (by decide) (by decide) (by decide)]; exact h2
  · rw [ec 0 (by decide), a5, ub_s]
  · rw [ec 16 (by decide), a4]; exact h2.symm
  · rw [ec 8 (by decide)]; exact a2.eq402 hx h1.2.1.1.2.2.2.2.2.2.1
  · exact (a3.fr16 (fun c hc => ec c (by omega))).eq hx2 r10
  · rw [ec 17 (by decide)]; exact a6 17 (by decide) (by decide) (by decide) (by decide)
  · rw [ec c (by omega)]; exact a6 c (by omega) (by omega) (by omega) (by omega)
theorem L_restore {S S1 S2 : St} {z z2 : Int} (h : INV S)
    (q1 : (S 0 4 0 = 0 ∧ z = -4 ∧ S1 = S) ∨ (S 0 4 0 = 1 ∧ z = 1 ∧ BR (S1 1) (S 22 9) ∧ PR S1 15 (S 22 10) ∧ S1 15 2 0 = S 16 2 0 ∧ FrC S S1))
    (q2 : (S1 22 11 0 < 0 ∧ z2 = -4 ∧ S2 = S1) ∨ (0 ≤ S1 22 11 0 ∧ z2 = 1 ∧ S2 = st3 (sR (sR S1 22 0 (cpR (S1 22 0) (S1 22 9) 0 402)) 22 7 (cpR (S1 22 7) (S1 22 10) 0 2412)) 22 8 0 (S1 22 11 0))) : z = z2 ∧ INV S2 := by
  obtain ⟨h1, h2, ⟨r9, r10, hi⟩, h4, h5, h6⟩ := id h
  rcases q1 with ⟨a1, rfl, rfl⟩ | ⟨a1, a2, a3, a4, a5, a6⟩
  · rcases q2 with ⟨b1, rfl, rfl⟩ | ⟨b1, -⟩
    · exact ⟨rfl, h⟩
    · rcases hi with ⟨-, d⟩ | ⟨d, -⟩
      · omega
      · omega
  · have e22 := a6.e22
    rw [e22] at q2
    rcases hi with ⟨d, -⟩ | ⟨d1, d2, d3, d4, d5⟩
    · omega
    have d6 := d5.2.1
    rcases q2 with ⟨b1, -⟩ | ⟨b1, b2, rfl⟩
    · omega
    · refine ⟨by rw [a2, b2], ?_⟩
      have ec : ∀ c, c ≠ 22 → st3 (sR (sR S1 22 0 (cpR (S 22 0) (S 22 9) 0 402)) 22 7 (cpR (S 22 7) (S 22 10) 0 2412)) 22 8 0 (S 22 11 0) c = S1 c := fun c hc => by
        funext j i; unfold st3 sR; simp [hc]
      have ej : ∀ j, j ≠ 0 → j ≠ 7 → j ≠ 8 → st3 (sR (sR S1 22 0 (cpR (S 22 0) (S 22 9) 0 402)) 22 7 (cpR (S 22 7) (S 22 10) 0 2412)) 22 8 0 (S 22 11 0) 22 j = S 22 j := fun j g9 g10 g11 => by
        funext i; rw [st3_j g11, sR_ji g10, sR_ji g9, e22]
      have e0 : st3 (sR (sR S1 22 0 (cpR (S 22 0) (S 22 9) 0 402)) 22 7 (cpR (S 22 7) (S 22 10) 0 2412)) 22 8 0 (S 22 11 0) 22 0 = cpR (S 22 0) (S 22 9) 0 402 := by
        funext i; rw [st3_j (by decide), sR_ji (by decide), sR_si]
      have e7 : st3 (sR (sR S1 22 0 (cpR (S 22 0) (S 22 9) 0 402)) 22 7 (cpR (S 22 7) (S 22 10) 0 2412)) 22 8 0 (S 22 11 0) 22 7 = cpR (S 22 7) (S 22 10) 0 2412 := by
        funext i; rw [st3_j (by decide), sR_si]
      have e8 : st3 (sR (sR S1 22 0 (cpR (S 22 0) (S 22 9) 0 402)) 22 7 (cpR (S 22 7) (S 22 10) 0 2412)) 22 8 0 (S 22 11 0) 22 8 0 = S 22 11 0 := st3_s _ _ _ _ _
      generalize st3 (sR (sR S1 22 0 (cpR (S 22 0) (S 22 9) 0 402)) 22 7 (cpR (S 22 7) (S 22 10) 0 2412)) 22 8 0 (S 22 11 0) = S2 at ec ej e0 e7 e8
      have hx : ∀ x, x < 402 → cpR (S 22 0) (S 22 9) 0 402 x = S 22 9 x := fun x hx => by unfold cpR; rw [if_pos (by omega)]; rfl
      have hx2 : ∀ x, x < 2412 → cpR (S 22 7) (S 22 10) 0 2412 x = S 22 10 x := fun x hx => by unfold cpR; rw [if_pos (by omega)]; rfl
      have n0 : Rg (cpR (S 22 0) (S 22 9) 0 402) := Rg.cp h1.2.1.1.1 r9 _ _
      have n7 : Rg (cpR (S 22 7) (S 22 10) 0 2412) := h1.2.2.2.cp r10 _ _
      refine h.upd (fun c a b d e => ?_) (fun j hj => ej j (by omega) (by omega) (by omega)) ?_ ?_
      · rw [ec c e]; exact a6 c a b d
      · rw [e0, e7]
        refine ⟨?_, d4.eq402 hx n0, (a4.fr (fun c hc => ec c (by omega))).eq hx2 n7, n7⟩
        rw [ec 1 (by decide)]; exact a3.eq402 hx d4.1.2.2.2.2.2.2.1
      · rw [ec 15 (by decide), e8, a5, d2]
theorem INV.shs {S S1 S2 : St} (h : INV S) (hF : FrS S S1) (hf : ∀ c, c ≠ 22 → S2 c = S1 c) (hg : ∀ j, j ≠ 12 → j ≠ 13 → j ≠ 14 → j ≠ 15 → S2 22 j = S 22 j) (hs : CSh S1 (S2 22 12) (S2 22 13) (S2 22 14)) (hk : ShOk S2) : INV S2 := by
  obtain ⟨h1, h2, h3, h4, h5, h6⟩ := h
  have g : ∀ j, j < 12 → S2 22 j = S 22 j := fun j hj => hg j (by omega) (by omega) (by omega) (by omega)
  unfold INV
  rw [g 0 (by decide), g 7 (by decide), g 8 (by decide), g 9 (by decide), g 10 (by decide), g 11 (by decide), g 3 (by decide), g 4 (by decide)]
  exact ⟨h1.fr (fun c hc => by rw [hf c (by omega)]; exact hF c (by omega)), by rw [hf 15 (by decide), hF 15 (by decide)]; exact h2, h3.fr (fun c hc => by rw [hf c (by omega)]; exact hF c (by omega)), h4.fr (by rw [hf 17 (by decide)]; exact hF 17 (by decide)), hs.fr (fun c _ _ => hf c (by omega)), hk⟩
theorem L_sheet {S S1 S2 : St} {s l n z z2 : Int} (h : INV S)
    (q1 : (¬ ((0 ≤ s ∧ s ≤ 3) ∧ (0 ≤ l ∧ l ≤ 3) ∧ n ≤ 24) ∧ z = -1 ∧ S1 = S) ∨ (((0 ≤ s ∧ s ≤ 3) ∧ (0 ≤ l ∧ l ≤ 3) ∧ n ≤ 24) ∧ n < 0 ∧ z = -14 ∧ S1 = S) ∨ (((0 ≤ s ∧ s ≤ 3) ∧ (0 ≤ l ∧ l ≤ 3) ∧ n ≤ 24) ∧ 0 ≤ n ∧ z = n ∧ CSh S1 (up (S 22 12) s.toNat l) (up (S 22 13) s.toNat n) (zeroR (S 22 14) (24 * s).toNat 24) ∧ FrS S S1))
    (q2 : (¬ ((0 ≤ s ∧ s ≤ 3) ∧ (0 ≤ l ∧ l ≤ 3) ∧ n ≤ 24) ∧ z2 = -1 ∧ S2 = S1) ∨ (((0 ≤ s ∧ s ≤ 3) ∧ (0 ≤ l ∧ l ≤ 3) ∧ n ≤ 24) ∧ n < 0 ∧ z2 = -14 ∧ S2 = S1) ∨ (((0 ≤ s ∧ s ≤ 3) ∧ (0 ≤ l ∧ l ≤ 3) ∧ n ≤ 24) ∧ 0 ≤ n ∧ z2 = n ∧ S2 = sR (st3 (st3 S1 22 12 s.toNat l) 22 13 s.toNat n) 22 14 (zeroR (S1 22 14) (24 * s).toNat 24))) : z = z2 ∧ INV S2 := by
  rcases q1 with ⟨a1, rfl, rfl⟩ | ⟨a1, a2, rfl, rfl⟩ | ⟨a1, a2, a3, a4, a5⟩
  · rcases q2 with ⟨b1, rfl, rfl⟩ | ⟨b1, -⟩ | ⟨b1, -⟩
    · exact ⟨rfl, h⟩
    · exact absurd b1 a1
    · exact absurd b1 a1
  · rcases q2 with ⟨b1, -⟩ | ⟨b1, b2, rfl, rfl⟩ | ⟨b1, b2, -⟩
    · exact absurd a1 b1
    · exact ⟨rfl, h⟩
    · omega
  · have e22 : S1 22 = S 22 := a5 22 (by decide)
    rcases q2 with ⟨b1, -⟩ | ⟨b1, b2, -⟩ | ⟨b1, b2, b3, rfl⟩
    · exact absurd a1 b1
    · omega
    · have e12 : sR (st3 (st3 S1 22 12 s.toNat l) 22 13 s.toNat n) 22 14 (zeroR (S1 22 14) (24 * s).toNat 24) 22 12 = up (S 22 12) s.toNat l := by
        funext i; rw [sR_ji (by decide), st3_j (by decide), st3_sR, sR_si, e22]
      have e13 : sR (st3 (st3 S1 22 12 s.toNat l) 22 13 s.toNat n) 22 14 (zeroR (S1 22 14) (24 * s).toNat 24) 22 13 = up (S 22 13) s.toNat n := by
        funext i; rw [sR_ji (by decide), st3_sR, sR_si, ← e22]; congr 1
      have e14 : sR (st3 (st3 S1 22 12 s.toNat l) 22 13 s.toNat n) 22 14 (zeroR (S1 22 14) (24 * s).toNat 24) 22 14 = zeroR (S 22 14) (24 * s).toNat 24 := by
        rw [sR_s, e22]
      refine ⟨by rw [a3, b3], h.shs a5 (fun c hc => ?_) (fun j j1 j2 j3 j4 => ?_) (by rw [e12, e13, e14]; exact a4) ?_⟩
      · funext j i; unfold st3 sR; simp [hc]
      · funext i; rw [sR_ji j3, st3_j j2, st3_j j1, e22]
      · have h6 := h.2.2.2.2.2
        unfold ShOk
        rw [e12, e13, e14]
        refine ⟨fun k hk => ?_, fun k => ?_⟩
        · have := h6.1 k hk
          unfold up
          constructor
          · split
            · omega
            · exact this.1
          · split
            · omega
            · exact this.2
        · unfold zeroR; split
          · decide
          · exact h6.2 k
theorem L_drop {S S1 S2 : St} {s z z2 : Int} (h : INV S)
    (q1 : (¬ (0 ≤ s ∧ s ≤ 3) ∧ z = -1 ∧ S1 = S) ∨ ((0 ≤ s ∧ s ≤ 3) ∧ S 22 12 s.toNat < 0 ∧ z = -11 ∧ S1 = S) ∨ ((0 ≤ s ∧ s ≤ 3) ∧ 0 ≤ S 22 12 s.toNat ∧ z = S 22 13 s.toNat ∧ CSh S1 (up (S 22 12) s.toNat (-1)) (S 22 13) (S 22 14) ∧ FrS S S1))
    (q2 : (¬ (0 ≤ s ∧ s ≤ 3) ∧ z2 = -1 ∧ S2 = S1) ∨ ((0 ≤ s ∧ s ≤ 3) ∧ S1 22 12 s.toNat < 0 ∧ z2 = -11 ∧ S2 = S1) ∨ ((0 ≤ s ∧ s ≤ 3) ∧ 0 ≤ S1 22 12 s.toNat ∧ z2 = S1 22 13 s.toNat ∧ S2 = st3 S1 22 12 s.toNat (-1))) : z = z2 ∧ INV S2 := by
  rcases q1 with ⟨a1, rfl, rfl⟩ | ⟨a1, a2, rfl, rfl⟩ | ⟨a1, a2, a3, a4, a5⟩
  · rcases q2 with ⟨b1, rfl, rfl⟩ | ⟨b1, -⟩ | ⟨b1, -⟩
    · exact ⟨rfl, h⟩
    · exact absurd b1 a1
    · exact absurd b1 a1
  · rcases q2 with ⟨b1, -⟩ | ⟨b1, b2, rfl, rfl⟩ | ⟨b1, b2, -⟩
    · exact absurd a1 b1
    · exact ⟨rfl, h⟩
    · omega
  · have e22 : S1 22 = S 22 := a5 22 (by decide)
    rw [e22] at q2
    rcases q2 with ⟨b1, -⟩ | ⟨b1, b2, -⟩ | ⟨b1, b2, b3, rfl⟩
    · exact absurd a1 b1
    · omega
    · have e12 : st3 S1 22 12 s.toNat (-1) 22 12 = up (S 22 12) s.toNat (-1) := by
        funext i; rw [st3_sR, sR_si, e22]
      have ej : ∀ j, j ≠ 12 → st3 S1 22 12 s.toNat (-1) 22 j = S 22 j := fun j hj => by funext i; rw [st3_j hj, e22]
      refine ⟨by rw [a3, b3], h.shs a5 (fun c hc => ?_) (fun j j1 j2 j3 j4 => ej j j1) (by rw [e12, ej 13 (by decide), ej 14 (by decide)]; exact a4) ?_⟩
      · rw [st3_sB, sB_c hc]
      · have h6 := h.2.2.2.2.2
        unfold ShOk
        rw [e12, ej 13 (by decide), ej 14 (by decide)]
        refine ⟨fun k hk => ⟨?_, (h6.1 k hk).2⟩, h6.2⟩
        unfold up
        split
        · decide
        · exact (h6.1 k hk).1
theorem L_item {S S1 S2 : St} {s l i v z z2 : Int} (hv : -9223372036854775808 ≤ v ∧ v < 9223372036854775808) (h : INV S)
    (q1 : (¬ ((0 ≤ s ∧ s ≤ 3) ∧ 0 ≤ l ∧ l ≤ 3) ∧ z = -1 ∧ S1 = S) ∨ (((0 ≤ s ∧ s ≤ 3) ∧ 0 ≤ l ∧ l ≤ 3) ∧ whyV (S 22 12) (S 22 13) s l i 1 < 0 ∧ z = whyV (S 22 12) (S 22 13) s l i 1 ∧ S1 = S) ∨ (((0 ≤ s ∧ s ≤ 3) ∧ 0 ≤ l ∧ l ≤ 3) ∧ 0 ≤ whyV (S 22 12) (S 22 13) s l i 1 ∧ z = 1 ∧ CSh S1 (S 22 12) (S 22 13) (up (S 22 14) (24 * s + i).toNat (cutV v l)) ∧ FrS S S1))
    (q2 : (¬ ((0 ≤ s ∧ s ≤ 3) ∧ 0 ≤ l ∧ l ≤ 3) ∧ z2 = -1 ∧ S2 = S1) ∨ (((0 ≤ s ∧ s ≤ 3) ∧ 0 ≤ l ∧ l ≤ 3) ∧ whyV (S1 22 12) (S1 22 13) s l i 1 < 0 ∧ z2 = whyV (S1 22 12) (S1 22 13) s l i 1 ∧ S2 = S1) ∨ (((0 ≤ s ∧ s ≤ 3) ∧ 0 ≤ l ∧ l ≤ 3) ∧ 0 ≤ whyV (S1 22 12) (S1 22 13) s l i 1 ∧ z2 = 1 ∧ S2 = st3 S1 22 14 (24 * s + i).toNat (cutV v l))) : z = z2 ∧ INV S2 := by
  rcases q1 with ⟨a1, rfl, rfl⟩ | ⟨a1, a2, rfl, rfl⟩ | ⟨a1, a2, a3, a4, a5⟩
  · rcases q2 with ⟨b1, rfl, rfl⟩ | ⟨b1, -⟩ | ⟨b1, -⟩
    · exact ⟨rfl, h⟩
    · exact absurd b1 a1
    · exact absurd b1 a1
  · rcases q2 with ⟨b1, -⟩ | ⟨b1, b2, rfl, rfl⟩ | ⟨b1, b2, -⟩
    · exact absurd a1 b1
    · exact ⟨rfl, h⟩
    · omega
  · have e22 : S1 22 = S 22 := a5 22 (by decide)
    rw [e22] at q2
    rcases q2 with ⟨b1, -⟩ | ⟨b1, b2, -⟩ | ⟨b1, b2, b3, rfl⟩
    · exact absurd a1 b1
    · omega
    · have e14 : st3 S1 22 14 (24 * s + i).toNat (cutV v l) 22 14 = up (S 22 14) (24 * s + i).toNat (cutV v l) := by
        funext i; rw [st3_sR, sR_si, e22]
      have ej : ∀ j, j ≠ 14 → st3 S1 22 14 (24 * s + i).toNat (cutV v l) 22 j = S 22 j := fun j hj => by funext i; rw [st3_j hj, e22]
      refine ⟨by rw [a3, b3], h.shs a5 (fun c hc => ?_) (fun j j1 j2 j3 j4 => ej j j3) (by rw [e14, ej 12 (by decide), ej 13 (by decide)]; exact a4) ?_⟩
      · rw [st3_sB, sB_c hc]
      · have h6 := h.2.2.2.2.2
        unfold ShOk
        rw [e14, ej 12 (by decide), ej 13 (by decide)]
        refine ⟨h6.1, fun k => ?_⟩
        unfold up
        split
        · exact cutV_rg hv
        · exact h6.2 k
theorem L_copy {S S1 S2 : St} {a i b j n z z2 : Int} (h : INV S)
    (q1 : z = copyV (S 22 12) (S 22 13) a i b j n ∧ ((z < 0 ∧ S1 = S) ∨ (0 ≤ z ∧ CSh S1 (S 22 12) (S 22 13) (cpR (S 22 14) (fun k => S 22 14 ((24 * a + i).toNat + k)) (24 * b + j).toNat n.toNat) ∧ FrS S S1)))
    (q2 : z2 = copyV (S1 22 12) (S1 22 13) a i b j n ∧ ((z2 < 0 ∧ S2 = S1) ∨ (0 ≤ z2 ∧ ∃ A, S2 = sR (sR S1 22 15 A) 22 14 (cpR (S1 22 14) (fun k => S1 22 14 ((24 * a + i).toNat + k)) (24 * b + j).toNat n.toNat)))) : z = z2 ∧ INV S2 := by
  obtain ⟨a1, q1⟩ := q1
  obtain ⟨b1, q2⟩ := q2
  have e22 : S1 22 = S 22 := by
    rcases q1 with ⟨-, rfl⟩ | ⟨-, -, a5⟩
    · rfl
    · exact a5 22 (by decide)
  rw [e22] at b1 q2
  have hz : z = z2 := by rw [a1, b1]
  refine ⟨hz, ?_⟩
  rcases q1 with ⟨a2, rfl⟩ | ⟨a2, a4, a5⟩
  · rcases q2 with ⟨b2, rfl⟩ | ⟨b2, -⟩
    · exact h
    · omega
  · rcases q2 with ⟨b2, -⟩ | ⟨b2, A, rfl⟩
    · omega
    · have e14 : sR (sR S1 22 15 A) 22 14 (cpR (S 22 14) (fun k => S 22 14 ((24 * a + i).toNat + k)) (24 * b + j).toNat n.toNat) 22 14 = cpR (S 22 14) (fun k => S 22 14 ((24 * a + i).toNat + k)) (24 * b + j).toNat n.toNat := sR_s _ _ _ _
      have ej : ∀ q, q ≠ 14 → q ≠ 15 → sR (sR S1 22 15 A) 22 14 (cpR (S 22 14) (fun k => S 22 14 ((24 * a + i).toNat + k)) (24 * b + j).toNat n.toNat) 22 q = S 22 q := fun q h1 h2 => by rw [sR_j h1, sR_j h2, e22]
      refine h.shs a5 (fun c hc => ?_) (fun j j1 j2 j3 j4 => ej j j3 j4) (by rw [e14, ej 12 (by decide) (by decide), ej 13 (by decide) (by decide)]; exact a4) ?_
      · funext q; rw [sR_c hc, sR_c hc]
      · have h6 := h.2.2.2.2.2
        unfold ShOk
        rw [e14, ej 12 (by decide) (by decide), ej 13 (by decide) (by decide)]
        refine ⟨h6.1, fun k => ?_⟩
        unfold cpR
        split
        · exact h6.2 _
        · exact h6.2 k
theorem L_film {S S1 S2 : St} {C : Prop} {y n z z2 : Int} {R : Row} (hR : LR R) (h : INV S)
    (q1 : (¬ C ∧ z = -1 ∧ S1 = S) ∨ (C ∧ y < 0 ∧ z = y ∧ S1 = S) ∨ (C ∧ 0 ≤ y ∧ z = n ∧ CSh S1 (S 22 12) (S 22 13) R ∧ FrS S S1))
    (q2 : (¬ C ∧ z2 = -1 ∧ S2 = S1) ∨ (C ∧ y < 0 ∧ z2 = y ∧ S2 = S1) ∨ (C ∧ 0 ≤ y ∧ z2 = n ∧ S2 = sR S1 22 14 R)) : z = z2 ∧ INV S2 := by
  rcases q1 with ⟨a1, rfl, rfl⟩ | ⟨a1, a2, rfl, rfl⟩ | ⟨a1, a2, a3, a4, a5⟩
  · rcases q2 with ⟨b1, rfl, rfl⟩ | ⟨b1, -⟩ | ⟨b1, -⟩
    · exact ⟨rfl, h⟩
    · exact absurd b1 a1
    · exact absurd b1 a1
  · rcases q2 with ⟨b1, -⟩ | ⟨b1, b2, rfl, rfl⟩ | ⟨b1, b2, -⟩
    · exact absurd a1 b1
    · exact ⟨rfl, h⟩
    · omega
  · have e22 : S1 22 = S 22 := a5 22 (by decide)
    rcases q2 with ⟨b1, -⟩ | ⟨b1, b2, -⟩ | ⟨b1, b2, b3, rfl⟩
    · exact absurd a1 b1
    · omega
    · have ej : ∀ q, q ≠ 14 → sR S1 22 14 R 22 q = S 22 q := fun q h1 => by rw [sR_j h1, e22]
      refine ⟨by rw [a3, b3], h.shs a5 (fun c hc => ?_) (fun j j1 j2 j3 j4 => ej j j3) (by rw [sR_s, ej 12 (by decide), ej 13 (by decide)]; exact a4) ?_⟩
      · funext q; rw [sR_c hc]
      · have h6 := h.2.2.2.2.2
        unfold ShOk
        rw [sR_s, ej 12 (by decide), ej 13 (by decide)]
        exact ⟨h6.1, hR⟩
theorem INV.frW {S S1 : St} (h : INV S) (hf : FrW S S1) : INV S1 := h.fr (fun c hc => by funext j; exact hf c j (fun q => hc q.1)) (fun j h1 h2 _ _ _ => hf 22 j (fun q => by omega))
