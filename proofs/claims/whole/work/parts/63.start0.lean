/-! ===== the first state ===== -/
def bk0 : Bk := fun j i => if j = 0 then (if i = 1 then 3 else if i = 2 then 1 else 0) else if j = 1 then 1 else 0
def S0 : St := fun c => if c = 22 then (fun j i => if j = 0 then (if i = 1 then 3 else if i = 2 then 1 else if i = 4 then 1 else 0) else if j = 11 then -1 else if j = 12 then (if i < 4 then -1 else 0) else 0) else if 1 ≤ c ∧ c ≤ 14 then bk0 else if 18 ≤ c ∧ c ≤ 21 then (fun j _ => if j = 0 then -1 else 0) else fun _ _ => 0
theorem S0_b {c : Nat} (h : 1 ≤ c ∧ c ≤ 14) : S0 c = bk0 := by unfold S0; rw [if_neg (by omega), if_pos h]
theorem S0_h {c : Nat} (h : 18 ≤ c ∧ c ≤ 21) : S0 c = fun j _ => if j = 0 then -1 else 0 := by unfold S0; rw [if_neg (by omega), if_neg (by omega), if_pos h]
theorem S0_z {c : Nat} (h : c = 0 ∨ c = 15 ∨ c = 16 ∨ c = 17) : S0 c = fun _ _ => 0 := by unfold S0; rw [if_neg (by omega), if_neg (by omega), if_neg (by omega)]
theorem S0_m : S0 22 = (fun j i => if j = 0 then (if i = 1 then 3 else if i = 2 then 1 else if i = 4 then 1 else 0) else if j = 11 then -1 else if j = 12 then (if i < 4 then -1 else 0) else 0) := rfl
theorem Rg0 : Rg (fun _ => 0) := fun _ => by dsimp only; omega
theorem INV0 : INV S0 := by
  have m0 : S0 22 0 = fun i => if i = 1 then 3 else if i = 2 then 1 else if i = 4 then 1 else 0 := rfl
  have n5 : S0 22 0 5 = 0 := rfl
  have n6 : S0 22 0 6 = 0 := rfl
  have hN : NR (S0 22 0) := by
    refine ⟨fun k => ?_, ?_, ?_, ?_, ?_, ?_, ?_, ?_⟩
    · rw [m0]; dsimp only; (repeat' split) <;> decide
    all_goals decide
  have hW : WF (S0 22 0) := by
    refine ⟨hN, ?_, fun i a b => ?_, fun r a b => ?_⟩
    · rw [n5]; show (0 : Int) ≤ 12; decide
    · rw [n5] at b; omega
    · rw [n6] at b; omega
  have hB : BR (S0 1) (S0 22 0) := by
    refine ⟨fun k hk => ?_, ⟨rfl, rfl, ?_, rfl⟩, fun i a b => ?_, fun k a b => ?_, fun r v a b _ _ => ?_, fun r k a b _ _ => ?_⟩
    · match k, hk with
      | 0, _ => rfl
      | 1, _ => rfl
      | 2, _ => rfl
      | 3, _ => rfl
    · rw [n5]; rfl
    · rw [n5] at b; omega
    · rw [n5] at b
      have : cnt (S0 22 0) (0 : Int).toNat = 0 := rfl
      omega
    · rw [n6] at b; omega
    · rw [n6] at b; omega
  have z7 : ∀ j, (j = 3 ∨ j = 7 ∨ j = 9 ∨ j = 10 ∨ j = 13 ∨ j = 14) → S0 22 j = fun _ => 0 := by
    intro j hj
    funext i
    rw [S0_m]
    dsimp only
    rw [if_neg (by omega), if_neg (by omega), if_neg (by omega)]
  have z15 : S0 15 2 0 = 0 := rfl
  refine ⟨⟨hB, hW, ⟨by decide, by decide, fun k a b => ?_⟩, ?_⟩, rfl, ⟨?_, ?_, Or.inl ⟨rfl, rfl⟩⟩, ⟨?_, rfl, ?_⟩, ⟨?_, fun s hs => ?_⟩, ⟨fun k hk => ?_, ?_⟩⟩
  · rw [z15] at b; omega
  · rw [z7 7 (by decide)]; exact Rg0
  · rw [z7 9 (by decide)]; exact Rg0
  · rw [z7 10 (by decide)]; exact Rg0
  · rw [z7 3 (by decide), S0_z (by decide)]
  · refine ⟨by decide, fun k hk => ?_⟩
    have : S0 22 4 0 = 0 := rfl
    omega
  · intro k; rw [z7 14 (by decide)]; dsimp only; omega
  · have l1 : S0 22 12 s = -1 := by rw [S0_m]; dsimp only; rw [if_neg (by decide), if_neg (by decide), if_pos rfl, if_pos hs]
    rw [l1, S0_h (c := 18 + s) (by omega)]
    refine ⟨by decide, by decide, rfl, fun h => absurd h (by decide)⟩
  · have l1 : S0 22 12 k = -1 := by rw [S0_m]; dsimp only; rw [if_neg (by decide), if_neg (by decide), if_pos rfl, if_pos hk]
    rw [l1, z7 13 (by decide)]
    dsimp only; omega
  · intro k; rw [z7 14 (by decide)]; dsimp only; omega
