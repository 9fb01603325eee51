/-! ===== the made cells are the state's ===== -/
theorem arrV_ext {cA : ClassId} {n : Nat} {f g : Nat → Value} (h : ∀ j, j < n → f j = g j) : arrV cA n f = arrV cA n g := by
  unfold arrV
  congr 2
  funext j
  exact h j.1 j.2
theorem told0_eq : (fun k => iI (bk0 0 k)) = told0 := by
  funext k
  unfold told0 bk0
  rw [if_pos rfl]
  by_cases h1 : k = 1
  · rw [if_pos h1, if_pos h1]; rfl
  · rw [if_neg h1, if_neg h1]
    by_cases h2 : k = 2
    · rw [if_pos h2, if_pos h2]; rfl
    · rw [if_neg h2, if_neg h2]; rfl
theorem now0_eq : (fun k => iI (S0 22 0 k)) = upd (upd (upd (fun _ => 0) 1 3) 2 1) 4 1 := by
  funext k
  rw [S0_m]
  unfold upd
  dsimp only
  rw [if_pos rfl]
  by_cases h1 : k = 1
  · subst h1; rfl
  by_cases h2 : k = 2
  · subst h2; rfl
  by_cases h4 : k = 4
  · subst h4; rfl
  rw [if_neg h1, if_neg h2, if_neg h4, if_neg h4, if_neg h2, if_neg h1]
  rfl
theorem lanes0_eq : (fun k => iI (S0 22 12 k)) = upd (upd (upd (upd (fun _ => 0) 0 (-1)) 1 (-1)) 2 (-1)) 3 (-1) := by
  funext k
  rw [S0_m]
  unfold upd
  dsimp only
  rw [if_neg (by decide), if_neg (by decide), if_pos rfl]
  by_cases h0 : k = 0
  · subst h0; rfl
  by_cases h1 : k = 1
  · subst h1; rfl
  by_cases h2 : k = 2
  · subst h2; rfl
  by_cases h3 : k = 3
  · subst h3; rfl
  rw [if_neg (by omega), if_neg h3, if_neg h2, if_neg h1, if_neg h0]
  rfl
section At
variable {G : GT} {D : va_G} {H : Heap} {c : Nat} {r : Nat → Nat} {k : Nat → ClassId}
theorem at_B (hc : 1 ≤ c ∧ c ≤ 14) (hρ : G.2.1 c = r) (hk : G.2.2.2.2.1 c = k) (hP : ∀ x ∈ wB r k, va_at D vwCl x H) : ∀ j, (c, j) ∈ vs → va_at D vwCl (G.2.1 c j, mk G S0 c j) H := by
  intro j hj
  have hkd : kd c = 0 := kd_book hc
  have hv := vs_ok _ hj
  cases j with
  | zero =>
    have h := hP _ (List.mem_of_getElem? (l := wB r k) (i := 0) rfl)
    have e : mk G S0 c 0 = .inr (kd c, fl G S0 c) := rfl
    rw [e]
    unfold fl
    rw [hkd]
    show va_at D vwCl (G.2.1 c 0, .inr (0, fl_Book G S0 c)) H
    unfold fl_Book aR
    rw [hρ, S0_b hc]
    exact h
  | succ j =>
    obtain ⟨h16, hak⟩ : j < 16 ∧ ak c j ≠ 0 := by
      rcases hv.2 with h | h
      · exact absurd h (Nat.succ_ne_zero j)
      · exact h
    unfold ak at hak
    rw [hkd] at hak
    rcases (show j = 0 ∨ j = 1 ∨ j = 2 ∨ j = 3 ∨ j = 4 ∨ j = 5 ∨ j = 6 ∨ j = 7 ∨ j = 8 ∨ j = 9 ∨ j = 10 ∨ j = 11 ∨ j = 12 ∨ j = 13 ∨ j = 14 ∨ j = 15 by omega) with rfl | rfl | rfl | rfl | rfl | rfl | rfl | rfl | rfl | rfl | rfl | rfl | rfl | rfl | rfl | rfl
    · have h := hP _ (List.mem_of_getElem? (l := wB r k) (i := 1) rfl)
      rw [mk_AI (ab_0 hc), hρ, hk, S0_b hc, told0_eq]
      exact h
    · exact absurd rfl hak
    · exact absurd rfl hak
    · have h := hP _ (List.mem_of_getElem? (l := wB r k) (i := 2) rfl)
      rw [mk_AI (ab_3 hc), hρ, hk, S0_b hc]
      exact h
    · have h := hP _ (List.mem_of_getElem? (l := wB r k) (i := 3) rfl)
      rw [mk_AI (ab_4 hc), hρ, hk, S0_b hc]
      exact h
    · have h := hP _ (List.mem_of_getElem? (l := wB r k) (i := 4) rfl)
      rw [mk_AI (ab_5 hc), hρ, hk, S0_b hc]
      exact h
    · have h := hP _ (List.mem_of_getElem? (l := wB r k) (i := 5) rfl)
      rw [mk_AI (ab_6 hc), hρ, hk, S0_b hc]
      exact h
    · have h := hP _ (List.mem_of_getElem? (l := wB r k) (i := 6) rfl)
      rw [mk_AI (ab_7 hc), hρ, hk, S0_b hc]
      exact h
    · exact absurd rfl hak
    · have h := hP _ (List.mem_of_getElem? (l := wB r k) (i := 7) rfl)
      rw [mk_AI (ab_9 hc), hρ, hk, S0_b hc]
      exact h
    · exact absurd rfl hak
    · have h := hP _ (List.mem_of_getElem? (l := wB r k) (i := 8) rfl)
      rw [mk_AI (ab_11 hc), hρ, hk, S0_b hc]
      exact h
    · have h := hP _ (List.mem_of_getElem? (l := wB r k) (i := 9) rfl)
      rw [mk_AI (ab_12 hc), hρ, hk, S0_b hc]
      exact h
    · exact absurd rfl hak
    · exact absurd rfl hak
    · exact absurd rfl hak
theorem ty_B (hc : 1 ≤ c ∧ c ≤ 14) (hk : G.2.2.2.2.1 c = k) : ∀ j, (c, j + 1) ∈ vs → (G.2.2.2.2.1 c j, aty c j) ∈ tB k := by
  intro j hj
  have hkd : kd c = 0 := kd_book hc
  have hv := vs_ok _ hj
  obtain ⟨h16, hak⟩ : j < 16 ∧ ak c j ≠ 0 := by
    rcases hv.2 with h | h
    · exact absurd h (Nat.succ_ne_zero j)
    · exact h
  have hak2 := hak
  unfold ak at hak2
  rw [hkd] at hak2
  rw [hk]
  rcases (show j = 0 ∨ j = 1 ∨ j = 2 ∨ j = 3 ∨ j = 4 ∨ j = 5 ∨ j = 6 ∨ j = 7 ∨ j = 8 ∨ j = 9 ∨ j = 10 ∨ j = 11 ∨ j = 12 ∨ j = 13 ∨ j = 14 ∨ j = 15 by omega) with rfl | rfl | rfl | rfl | rfl | rfl | rfl | rfl | rfl | rfl | rfl | rfl | rfl | rfl | rfl | rfl
  · rw [show aty c 0 = .int by unfold aty; rw [if_pos (ab_0 hc).2.2.1]]; exact List.mem_of_getElem? (i := 0) rfl
  · exact absurd rfl hak2
  · exact absurd rfl hak2
  · rw [show aty c 3 = .int by unfold aty; rw [if_pos (ab_3 hc).2.2.1]]; exact List.mem_of_getElem? (i := 1) rfl
  · rw [show aty c 4 = .int by unfold aty; rw [if_pos (ab_4 hc).2.2.1]]; exact List.mem_of_getElem? (i := 2) rfl
  · rw [show aty c 5 = .int by unfold aty; rw [if_pos (ab_5 hc).2.2.1]]; exact List.mem_of_getElem? (i := 3) rfl
  · rw [show aty c 6 = .int by unfold aty; rw [if_pos (ab_6 hc).2.2.1]]; exact List.mem_of_getElem? (i := 4) rfl
  · rw [show aty c 7 = .int by unfold aty; rw [if_pos (ab_7 hc).2.2.1]]; exact List.mem_of_getElem? (i := 5) rfl
  · exact absurd rfl hak2
  · rw [show aty c 9 = .int by unfold aty; rw [if_pos (ab_9 hc).2.2.1]]; exact List.mem_of_getElem? (i := 6) rfl
  · exact absurd rfl hak2
  · rw [show aty c 11 = .int by unfold aty; rw [if_pos (ab_11 hc).2.2.1]]; exact List.mem_of_getElem? (i := 7) rfl
  · rw [show aty c 12 = .int by unfold aty; rw [if_pos (ab_12 hc).2.2.1]]; exact List.mem_of_getElem? (i := 8) rfl
  · exact absurd rfl hak2
  · exact absurd rfl hak2
  · exact absurd rfl hak2
theorem at_H (hc : 18 ≤ c ∧ c ≤ 21) (hρ : G.2.1 c = r) (hk : G.2.2.2.2.1 c = k) (hP : ∀ x ∈ wH r k, va_at D vwCl x H) : ∀ j, (c, j) ∈ vs → va_at D vwCl (G.2.1 c j, mk G S0 c j) H := by
  intro j hj
  have hkd : kd c = 2 := kd_sheet hc
  have hv := vs_ok _ hj
  cases j with
  | zero =>
    have h := hP _ (List.mem_of_getElem? (l := wH r k) (i := 0) rfl)
    have e : mk G S0 c 0 = .inr (kd c, fl G S0 c) := rfl
    rw [e]
    unfold fl
    rw [hkd]
    show va_at D vwCl (G.2.1 c 0, .inr (2, fl_Sheet G S0 c)) H
    unfold fl_Sheet aR
    rw [hρ, S0_h hc]
    exact h
  | succ j =>
    obtain ⟨h16, hak⟩ : j < 16 ∧ ak c j ≠ 0 := by
      rcases hv.2 with h | h
      · exact absurd h (Nat.succ_ne_zero j)
      · exact h
    unfold ak at hak
    rw [hkd] at hak
    rcases (show j = 0 ∨ j = 1 ∨ j = 2 ∨ j = 3 ∨ j = 4 ∨ j = 5 ∨ j = 6 ∨ j = 7 ∨ j = 8 ∨ j = 9 ∨ j = 10 ∨ j = 11 ∨ j = 12 ∨ j = 13 ∨ j = 14 ∨ j = 15 by omega) with rfl | rfl | rfl | rfl | rfl | rfl | rfl | rfl | rfl | rfl | rfl | rfl | rfl | rfl | rfl | rfl
    · exact absurd rfl hak
    · exact absurd rfl hak
    · have h := hP _ (List.mem_of_getElem? (l := wH r k) (i := 1) rfl)
      rw [mk_AL (ah_2 hc), hρ, hk, S0_h hc]
      exact h
    · exact absurd rfl hak
    · exact absurd rfl hak
    · exact absurd rfl hak
    · exact absurd rfl hak
    · exact absurd rfl hak
    · exact absurd rfl hak
    · exact absurd rfl hak
    · exact absurd rfl hak
    · exact absurd rfl hak
    · exact absurd rfl hak
    · exact absurd rfl hak
    · exact absurd rfl hak
    · exact absurd rfl hak
theorem ty_H (hc : 18 ≤ c ∧ c ≤ 21) (hk : G.2.2.2.2.1 c = k) : ∀ j, (c, j + 1) ∈ vs → (G.2.2.2.2.1 c j, aty c j) ∈ tH k := by
  intro j hj
  have hkd : kd c = 2 := kd_sheet hc
  have hv := vs_ok _ hj
  obtain ⟨h16, hak⟩ : j < 16 ∧ ak c j ≠ 0 := by
    rcases hv.2 with h | h
    · exact absurd h (Nat.succ_ne_zero j)
    · exact h
  have hak2 := hak
  unfold ak at hak2
  rw [hkd] at hak2
  rw [hk]
  rcases (show j = 0 ∨ j = 1 ∨ j = 2 ∨ j = 3 ∨ j = 4 ∨ j = 5 ∨ j = 6 ∨ j = 7 ∨ j = 8 ∨ j = 9 ∨ j = 10 ∨ j = 11 ∨ j = 12 ∨ j = 13 ∨ j = 14 ∨ j = 15 by omega) with rfl | rfl | rfl | rfl | rfl | rfl | rfl | rfl | rfl | rfl | rfl | rfl | rfl | rfl | rfl | rfl
  · exact absurd rfl hak2
  · exact absurd rfl hak2
  · rw [show aty c 2 = .long by unfold aty; rw [if_neg (by rw [(ah_2 hc).2.2.1]; decide), if_pos (ah_2 hc).2.2.1]]; exact List.mem_of_getElem? (i := 0) rfl
  · exact absurd rfl hak2
  · exact absurd rfl hak2
  · exact absurd rfl hak2
  · exact absurd rfl hak2
  · exact absurd rfl hak2
  · exact absurd rfl hak2
  · exact absurd rfl hak2
  · exact absurd rfl hak2
  · exact absurd rfl hak2
  · exact absurd rfl hak2
  · exact absurd rfl hak2
  · exact absurd rfl hak2
  · exact absurd rfl hak2
theorem at_T (hρ : G.2.1 17 = r) (hk : G.2.2.2.2.1 17 = k) (hP : ∀ x ∈ wT r k, va_at D vwCl x H) : ∀ j, (17, j) ∈ vs → va_at D vwCl (G.2.1 17 j, mk G S0 17 j) H := by
  intro j hj
  have hkd : kd 17 = 3 := rfl
  have hv := vs_ok _ hj
  cases j with
  | zero =>
    have h := hP _ (List.mem_of_getElem? (l := wT r k) (i := 0) rfl)
    have e : mk G S0 17 0 = .inr (kd 17, fl G S0 17) := rfl
    rw [e]
    unfold fl
    rw [hkd]
    show va_at D vwCl (G.2.1 17 0, .inr (3, fl_Tape G S0 17)) H
    unfold fl_Tape aR
    rw [hρ, S0_z (c := 17) (by decide)]
    exact h
  | succ j =>
    obtain ⟨h16, hak⟩ : j < 16 ∧ ak 17 j ≠ 0 := by
      rcases hv.2 with h | h
      · exact absurd h (Nat.succ_ne_zero j)
      · exact h
    unfold ak at hak
    rw [hkd] at hak
    rcases (show j = 0 ∨ j = 1 ∨ j = 2 ∨ j = 3 ∨ j = 4 ∨ j = 5 ∨ j = 6 ∨ j = 7 ∨ j = 8 ∨ j = 9 ∨ j = 10 ∨ j = 11 ∨ j = 12 ∨ j = 13 ∨ j = 14 ∨ j = 15 by omega) with rfl | rfl | rfl | rfl | rfl | rfl | rfl | rfl | rfl | rfl | rfl | rfl | rfl | rfl | rfl | rfl
    · have h := hP _ (List.mem_of_getElem? (l := wT r k) (i := 1) rfl)
      rw [mk_AI (at_0), hρ, hk, S0_z (c := 17) (by decide)]
      exact h
    · exact absurd rfl hak
    · have h := hP _ (List.mem_of_getElem? (l := wT r k) (i := 2) rfl)
      rw [mk_AI (at_2), hρ, hk, S0_z (c := 17) (by decide)]
      exact h
    · have h := hP _ (List.mem_of_getElem? (l := wT r k) (i := 3) rfl)
      rw [mk_AI (at_3), hρ, hk, S0_z (c := 17) (by decide)]
      exact h
    · exact absurd rfl hak
    · exact absurd rfl hak
    · exact absurd rfl hak
    · exact absurd rfl hak
    · exact absurd rfl hak
    · exact absurd rfl hak
    · exact absurd rfl hak
    · exact absurd rfl hak
    · exact absurd rfl hak
    · exact absurd rfl hak
    · exact absurd rfl hak
    · exact absurd rfl hak
theorem ty_T (hk : G.2.2.2.2.1 17 = k) : ∀ j, (17, j + 1) ∈ vs → (G.2.2.2.2.1 17 j, aty 17 j) ∈ tT k := by
  intro j hj
  have hkd : kd 17 = 3 := rfl
  have hv := vs_ok _ hj
  obtain ⟨h16, hak⟩ : j < 16 ∧ ak 17 j ≠ 0 := by
    rcases hv.2 with h | h
    · exact absurd h (Nat.succ_ne_zero j)
    · exact h
  have hak2 := hak
  unfold ak at hak2
  rw [hkd] at hak2
  rw [hk]
  rcases (show j = 0 ∨ j = 1 ∨ j = 2 ∨ j = 3 ∨ j = 4 ∨ j = 5 ∨ j = 6 ∨ j = 7 ∨ j = 8 ∨ j = 9 ∨ j = 10 ∨ j = 11 ∨ j = 12 ∨ j = 13 ∨ j = 14 ∨ j = 15 by omega) with rfl | rfl | rfl | rfl | rfl | rfl | rfl | rfl | rfl | rfl | rfl | rfl | rfl | rfl | rfl | rfl
  · rw [show aty 17 0 = .int by unfold aty; rw [if_pos (at_0).2.2.1]]; exact List.mem_of_getElem? (i := 0) rfl
  · exact absurd rfl hak2
  · rw [show aty 17 2 = .int by unfold aty; rw [if_pos (at_2).2.2.1]]; exact List.mem_of_getElem? (i := 1) rfl
  · rw [show aty 17 3 = .int by unfold aty; rw [if_pos (at_3).2.2.1]]; exact List.mem_of_getElem? (i := 2) rfl
  · exact absurd rfl hak2
  · exact absurd rfl hak2
  · exact absurd rfl hak2
  · exact absurd rfl hak2
  · exact absurd rfl hak2
  · exact absurd rfl hak2
  · exact absurd rfl hak2
  · exact absurd rfl hak2
  · exact absurd rfl hak2
  · exact absurd rfl hak2
  · exact absurd rfl hak2
  · exact absurd rfl hak2
theorem at_M (hρ : G.2.1 22 = r) (hk : G.2.2.2.2.1 22 = k) (hP : ∀ x ∈ wM r k, va_at D vwCl x H) : ∀ j, (22, j) ∈ vs → va_at D vwCl (G.2.1 22 j, mk G S0 22 j) H := by
  intro j hj
  have hkd : kd 22 = 5 := rfl
  have hv := vs_ok _ hj
  cases j with
  | zero =>
    have h := hP _ (List.mem_of_getElem? (l := wM r k) (i := 0) rfl)
    have e : mk G S0 22 0 = .inr (kd 22, fl G S0 22) := rfl
    rw [e]
    unfold fl
    rw [hkd]
    show va_at D vwCl (G.2.1 22 0, .inr (5, fl_Model G S0 22)) H
    unfold fl_Model aR
    rw [hρ]
    exact h
  | succ j =>
    obtain ⟨h16, hak⟩ : j < 16 ∧ ak 22 j ≠ 0 := by
      rcases hv.2 with h | h
      · exact absurd h (Nat.succ_ne_zero j)
      · exact h
    unfold ak at hak
    rw [hkd] at hak
    rcases (show j = 0 ∨ j = 1 ∨ j = 2 ∨ j = 3 ∨ j = 4 ∨ j = 5 ∨ j = 6 ∨ j = 7 ∨ j = 8 ∨ j = 9 ∨ j = 10 ∨ j = 11 ∨ j = 12 ∨ j = 13 ∨ j = 14 ∨ j = 15 by omega) with rfl | rfl | rfl | rfl | rfl | rfl | rfl | rfl | rfl | rfl | rfl | rfl | rfl | rfl | rfl | rfl
    · have h := hP _ (List.mem_of_getElem? (l := wM r k) (i := 1) rfl)
      rw [mk_AI (am_0), hρ, hk, now0_eq]
      exact h
    · have h := hP _ (List.mem_of_getElem? (l := wM r k) (i := 2) rfl)
      rw [mk_AI (am_1), hρ, hk]
      exact h
    · have h := hP _ (List.mem_of_getElem? (l := wM r k) (i := 3) rfl)
      rw [mk_AI (am_2), hρ, hk]
      exact h
    · have h := hP _ (List.mem_of_getElem? (l := wM r k) (i := 4) rfl)
      rw [mk_AI (am_3), hρ, hk]
      exact h
    · exact absurd rfl hak
    · exact absurd rfl hak
    · exact absurd rfl hak
    · have h := hP _ (List.mem_of_getElem? (l := wM r k) (i := 5) rfl)
      rw [mk_AI (am_7), hρ, hk]
      exact h
    · exact absurd rfl hak
    · have h := hP _ (List.mem_of_getElem? (l := wM r k) (i := 6) rfl)
      rw [mk_AI (am_9), hρ, hk]
      exact h
    · have h := hP _ (List.mem_of_getElem? (l := wM r k) (i := 7) rfl)
      rw [mk_AI (am_10), hρ, hk]
      exact h
    · exact absurd rfl hak
    · have h := hP _ (List.mem_of_getElem? (l := wM r k) (i := 8) rfl)
      rw [mk_AI (am_12), hρ, hk, lanes0_eq]
      exact h
    · have h := hP _ (List.mem_of_getElem? (l := wM r k) (i := 9) rfl)
      rw [mk_AI (am_13), hρ, hk]
      exact h
    · have h := hP _ (List.mem_of_getElem? (l := wM r k) (i := 10) rfl)
      rw [mk_AL (am_14), hρ, hk]
      exact h
    · have h := hP _ (List.mem_of_getElem? (l := wM r k) (i := 11) rfl)
      rw [mk_AL (am_15), hρ, hk]
      exact h
theorem ty_M (hk : G.2.2.2.2.1 22 = k) : ∀ j, (22, j + 1) ∈ vs → (G.2.2.2.2.1 22 j, aty 22 j) ∈ tM k := by
  intro j hj
  have hkd : kd 22 = 5 := rfl
  have hv := vs_ok _ hj
  obtain ⟨h16, hak⟩ : j < 16 ∧ ak 22 j ≠ 0 := by
    rcases hv.2 with h | h
    · exact absurd h (Nat.succ_ne_zero j)
    · exact h
  have hak2 := hak
  unfold ak at hak2
  rw [hkd] at hak2
  rw [hk]
  rcases (show j = 0 ∨ j = 1 ∨ j = 2 ∨ j = 3 ∨ j = 4 ∨ j = 5 ∨ j = 6 ∨ j = 7 ∨ j = 8 ∨ j = 9 ∨ j = 10 ∨ j = 11 ∨ j = 12 ∨ j = 13 ∨ j = 14 ∨ j = 15 by omega) with rfl | rfl | rfl | rfl | rfl | rfl | rfl | rfl | rfl | rfl | rfl | rfl | rfl | rfl | rfl | rfl
  · rw [show aty 22 0 = .int by unfold aty; rw [if_pos (am_0).2.2.1]]; exact List.mem_of_getElem? (i := 0) rfl
  · rw [show aty 22 1 = .int by unfold aty; rw [if_pos (am_1).2.2.1]]; exact List.mem_of_getElem? (i := 1) rfl
  · rw [show aty 22 2 = .int by unfold aty; rw [if_pos (am_2).2.2.1]]; exact List.mem_of_getElem? (i := 2) rfl
  · rw [show aty 22 3 = .int by unfold aty; rw [if_pos (am_3).2.2.1]]; exact List.mem_of_getElem? (i := 3) rfl
  · exact absurd rfl hak2
  · exact absurd rfl hak2
  · exact absurd rfl hak2
  · rw [show aty 22 7 = .int by unfold aty; rw [if_pos (am_7).2.2.1]]; exact List.mem_of_getElem? (i := 4) rfl
  · exact absurd rfl hak2
  · rw [show aty 22 9 = .int by unfold aty; rw [if_pos (am_9).2.2.1]]; exact List.mem_of_getElem? (i := 5) rfl
  · rw [show aty 22 10 = .int by unfold aty; rw [if_pos (am_10).2.2.1]]; exact List.mem_of_getElem? (i := 6) rfl
  · exact absurd rfl hak2
  · rw [show aty 22 12 = .int by unfold aty; rw [if_pos (am_12).2.2.1]]; exact List.mem_of_getElem? (i := 7) rfl
  · rw [show aty 22 13 = .int by unfold aty; rw [if_pos (am_13).2.2.1]]; exact List.mem_of_getElem? (i := 8) rfl
  · rw [show aty 22 14 = .long by unfold aty; rw [if_neg (by rw [(am_14).2.2.1]; decide), if_pos (am_14).2.2.1]]; exact List.mem_of_getElem? (i := 9) rfl
  · rw [show aty 22 15 = .long by unfold aty; rw [if_neg (by rw [(am_15).2.2.1]; decide), if_pos (am_15).2.2.1]]; exact List.mem_of_getElem? (i := 10) rfl
theorem at_P {a q : Nat} {cq : ClassId} {R : Nat → Nat → Nat} {K : Nat → Nat → ClassId} (hc : 15 ≤ c ∧ c ≤ 16) (h0 : G.2.1 c 0 = a) (h1 : G.2.1 c 1 = q) (hk : G.2.2.2.2.1 c 0 = cq) (hr : ∀ i, i < 6 → G.2.1 (rf c i) 0 = R i 0) (hP : ∀ x ∈ wPb a q cq R K 6, va_at D vwCl x H) : ∀ j, (c, j) ∈ vs → va_at D vwCl (G.2.1 c j, mk G S0 c j) H := by
  intro j hj
  have hkd : kd c = 1 := kd_past hc
  have hz : S0 c = fun _ _ => 0 := S0_z (by omega)
  have hv := vs_ok _ hj
  cases j with
  | zero =>
    have h := hP _ (List.mem_of_getElem? (l := wPb a q cq R K 6) (i := 0) rfl)
    have e : mk G S0 c 0 = .inr (kd c, fl G S0 c) := rfl
    rw [e]
    unfold fl
    rw [hkd]
    show va_at D vwCl (G.2.1 c 0, .inr (1, fl_Past G S0 c)) H
    unfold fl_Past aR
    rw [h0, h1, hz]
    exact h
  | succ j =>
    obtain ⟨h16, hak⟩ : j < 16 ∧ ak c j ≠ 0 := by
      rcases hv.2 with h | h
      · exact absurd h (Nat.succ_ne_zero j)
      · exact h
    unfold ak at hak
    rw [hkd] at hak
    rcases (show j = 0 ∨ j = 1 ∨ j = 2 ∨ j = 3 ∨ j = 4 ∨ j = 5 ∨ j = 6 ∨ j = 7 ∨ j = 8 ∨ j = 9 ∨ j = 10 ∨ j = 11 ∨ j = 12 ∨ j = 13 ∨ j = 14 ∨ j = 15 by omega) with rfl | rfl | rfl | rfl | rfl | rfl | rfl | rfl | rfl | rfl | rfl | rfl | rfl | rfl | rfl | rfl
    · have h := hP _ (List.mem_of_getElem? (l := wPb a q cq R K 6) (i := 1) rfl)
      have em : mk G S0 c 1 = .inl (G.2.2.2.2.1 c 0, 6, .inr (.inr (.inr (.inr (fun k => some (G.2.1 (rf c k) 0)))))) := by
        show (Sum.inl (_, ln c 0, mkc G S0 c 0) : va_E) = _
        unfold mkc
        rw [if_neg (by rw [(aap hc).2.2.1]; decide), if_neg (by rw [(aap hc).2.2.1]; decide), (aap hc).2.2.2]
      rw [em, h1, hk]
      show H[q]? = some (vp_cell cq _)
      have h : H[q]? = some (vp_cell cq (6, .inr (.inr (.inr (.inr (fR R 6)))))) := h
      rw [h, vp_cell_q, vp_cell_q]
      congr 1
      refine arrV_ext (fun i hi => ?_)
      unfold fR
      rw [if_pos hi, hr i hi]
    · exact absurd rfl hak
    · exact absurd rfl hak
    · exact absurd rfl hak
    · exact absurd rfl hak
    · exact absurd rfl hak
    · exact absurd rfl hak
    · exact absurd rfl hak
    · exact absurd rfl hak
    · exact absurd rfl hak
    · exact absurd rfl hak
    · exact absurd rfl hak
    · exact absurd rfl hak
    · exact absurd rfl hak
    · exact absurd rfl hak
    · exact absurd rfl hak
theorem ty_P {cq : ClassId} {K : Nat → Nat → ClassId} (hc : 15 ≤ c ∧ c ≤ 16) (hk : G.2.2.2.2.1 c 0 = cq) : ∀ j, (c, j + 1) ∈ vs → (G.2.2.2.2.1 c j, aty c j) ∈ tPb cq K 6 := by
  intro j hj
  have hkd : kd c = 1 := kd_past hc
  have hv := vs_ok _ hj
  obtain ⟨h16, hak⟩ : j < 16 ∧ ak c j ≠ 0 := by
    rcases hv.2 with h | h
    · exact absurd h (Nat.succ_ne_zero j)
    · exact h
  have hak2 := hak
  unfold ak at hak2
  rw [hkd] at hak2
  rcases (show j = 0 ∨ j = 1 ∨ j = 2 ∨ j = 3 ∨ j = 4 ∨ j = 5 ∨ j = 6 ∨ j = 7 ∨ j = 8 ∨ j = 9 ∨ j = 10 ∨ j = 11 ∨ j = 12 ∨ j = 13 ∨ j = 14 ∨ j = 15 by omega) with rfl | rfl | rfl | rfl | rfl | rfl | rfl | rfl | rfl | rfl | rfl | rfl | rfl | rfl | rfl | rfl
  · rw [hk, show aty c 0 = .object "MixRounds$Book" by unfold aty; rw [if_neg (by rw [(aap hc).2.2.1]; decide), if_neg (by rw [(aap hc).2.2.1]; decide), if_neg (by omega)]]
    exact List.mem_cons_self
  · exact absurd rfl hak2
  · exact absurd rfl hak2
  · exact absurd rfl hak2
  · exact absurd rfl hak2
  · exact absurd rfl hak2
  · exact absurd rfl hak2
  · exact absurd rfl hak2
  · exact absurd rfl hak2
  · exact absurd rfl hak2
  · exact absurd rfl hak2
  · exact absurd rfl hak2
  · exact absurd rfl hak2
  · exact absurd rfl hak2
  · exact absurd rfl hak2
  · exact absurd rfl hak2
theorem at_X {h0 q : Nat} {cq : ClassId} {R : Nat → Nat → Nat} (e0 : G.2.1 0 0 = h0) (e1 : G.2.1 0 7 = q) (hk : G.2.2.2.2.1 0 6 = cq) (hr : ∀ i, i < 4 → G.2.1 (18 + i) 0 = R i 0)
    (hP0 : va_at D vwCl (h0, obX (G.2.1 1 0) (G.2.1 15 0) (G.2.1 8 0) (G.2.1 16 0) (G.2.1 17 0) q) H) (hP1 : va_at D vwCl (q, .inl (cq, 4, .inr (.inr (.inr (.inr (fR R 4)))))) H) : ∀ j, (0, j) ∈ vs → va_at D vwCl (G.2.1 0 j, mk G S0 0 j) H := by
  intro j hj
  have hv := vs_ok _ hj
  cases j with
  | zero =>
    show va_at D vwCl (G.2.1 0 0, .inr (4, fl_Mix G S0 0)) H
    unfold fl_Mix aR oR
    rw [e0, e1, S0_z (by decide)]
    exact hP0
  | succ j =>
    obtain ⟨h16, hak⟩ : j < 16 ∧ ak 0 j ≠ 0 := by
      rcases hv.2 with h | h
      · exact absurd h (Nat.succ_ne_zero j)
      · exact h
    rcases (show j = 0 ∨ j = 1 ∨ j = 2 ∨ j = 3 ∨ j = 4 ∨ j = 5 ∨ j = 6 ∨ j = 7 ∨ j = 8 ∨ j = 9 ∨ j = 10 ∨ j = 11 ∨ j = 12 ∨ j = 13 ∨ j = 14 ∨ j = 15 by omega) with rfl | rfl | rfl | rfl | rfl | rfl | rfl | rfl | rfl | rfl | rfl | rfl | rfl | rfl | rfl | rfl
    · exact absurd rfl hak
    · exact absurd rfl hak
    · exact absurd rfl hak
    · exact absurd rfl hak
    · exact absurd rfl hak
    · exact absurd rfl hak
    · have em : mk G S0 0 7 = .inl (G.2.2.2.2.1 0 6, 4, .inr (.inr (.inr (.inr (fun k => some (G.2.1 (rf 0 k) 0)))))) := rfl
      rw [em, e1, hk]
      show H[q]? = some (vp_cell cq _)
      have h : H[q]? = some (vp_cell cq (4, .inr (.inr (.inr (.inr (fR R 4)))))) := hP1
      rw [h, vp_cell_q, vp_cell_q]
      congr 1
      refine arrV_ext (fun i hi => ?_)
      unfold fR
      rw [if_pos hi, rf_0, hr i hi]
    · exact absurd rfl hak
    · exact absurd rfl hak
    · exact absurd rfl hak
    · exact absurd rfl hak
    · exact absurd rfl hak
    · exact absurd rfl hak
    · exact absurd rfl hak
    · exact absurd rfl hak
    · exact absurd rfl hak
theorem ty_X {cq : ClassId} {tr : List (ClassId × FieldType)} {K : Nat → Nat → ClassId} (hk : G.2.2.2.2.1 0 6 = cq) : ∀ j, (0, j + 1) ∈ vs → (G.2.2.2.2.1 0 j, aty 0 j) ∈ tXb tr cq K 4 := by
  intro j hj
  have hv := vs_ok _ hj
  obtain ⟨h16, hak⟩ : j < 16 ∧ ak 0 j ≠ 0 := by
    rcases hv.2 with h | h
    · exact absurd h (Nat.succ_ne_zero j)
    · exact h
  rcases (show j = 0 ∨ j = 1 ∨ j = 2 ∨ j = 3 ∨ j = 4 ∨ j = 5 ∨ j = 6 ∨ j = 7 ∨ j = 8 ∨ j = 9 ∨ j = 10 ∨ j = 11 ∨ j = 12 ∨ j = 13 ∨ j = 14 ∨ j = 15 by omega) with rfl | rfl | rfl | rfl | rfl | rfl | rfl | rfl | rfl | rfl | rfl | rfl | rfl | rfl | rfl | rfl
  · exact absurd rfl hak
  · exact absurd rfl hak
  · exact absurd rfl hak
  · exact absurd rfl hak
  · exact absurd rfl hak
  · exact absurd rfl hak
  · rw [hk]; unfold tXb; exact List.mem_append_left _ (List.mem_append_right _ List.mem_cons_self)
  · exact absurd rfl hak
  · exact absurd rfl hak
  · exact absurd rfl hak
  · exact absurd rfl hak
  · exact absurd rfl hak
  · exact absurd rfl hak
  · exact absurd rfl hak
  · exact absurd rfl hak
  · exact absurd rfl hak
end At
