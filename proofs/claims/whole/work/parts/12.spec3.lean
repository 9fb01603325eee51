/-! ===== what a call does to a row ===== -/
def FullP (N : Row) : Prop := 76 ≤ N 5 ∨ 12 ≤ N 6
def ComeR (N : Row) (a r z : Int) (N' : Row) : Prop := ((FullP N ∨ 12 ≤ cnt N (N 5).toNat) ∧ z = -3 ∧ N' = N) ∨
  (¬ (FullP N ∨ 12 ≤ cnt N (N 5).toNat) ∧ ¬ begP (addN N a r) (N 0) False (cnt N (N 5).toNat + 1) ∧ z = 0 ∧ N' = addN N a r) ∨
  (¬ (FullP N ∨ 12 ≤ cnt N (N 5).toNat) ∧ begP (addN N a r) (N 0) False (cnt N (N 5).toNat + 1) ∧ z = rndGo (addN N a r) ∧ N' = rndN (addN N a r))
def TickR (N : Row) (z : Int) (N' : Row) : Prop := (FullP N ∧ z = -3 ∧ N' = N) ∨ (¬ FullP N ∧ ¬ begP N (N 0) True (cnt N (N 5).toNat) ∧ z = 0 ∧ N' = N) ∨ (¬ FullP N ∧ begP N (N 0) True (cnt N (N 5).toNat) ∧ z = rndGo N ∧ N' = rndN N)
theorem ComeR.uniq {N : Row} {a r z z' : Int} {N1 N2 : Row} (h1 : ComeR N a r z N1) (h2 : ComeR N a r z' N2) : z = z' ∧ N1 = N2 := by
  rcases h1 with ⟨a1, rfl, rfl⟩ | ⟨a1, a2, rfl, rfl⟩ | ⟨a1, a2, rfl, rfl⟩ <;> rcases h2 with ⟨b1, rfl, rfl⟩ | ⟨b1, b2, rfl, rfl⟩ | ⟨b1, b2, rfl, rfl⟩ <;> first | exact ⟨rfl, rfl⟩ | contradiction
theorem TickR.uniq {N : Row} {z z' : Int} {N1 N2 : Row} (h1 : TickR N z N1) (h2 : TickR N z' N2) : z = z' ∧ N1 = N2 := by
  rcases h1 with ⟨a1, rfl, rfl⟩ | ⟨a1, a2, rfl, rfl⟩ | ⟨a1, a2, rfl, rfl⟩ <;> rcases h2 with ⟨b1, rfl, rfl⟩ | ⟨b1, b2, rfl, rfl⟩ | ⟨b1, b2, rfl, rfl⟩ <;> first | exact ⟨rfl, rfl⟩ | contradiction
/-- a round that begins lets one out at least, and no more than there are -/
theorem rnd_rg {N : Row} {T : Prop} (h : NR N) (hb : begP N (N 0) T (cnt N (N 5).toNat)) (hd : N 5 + N 3 ≤ 79) : 1 ≤ rndGo N ∧ rndGo N ≤ cnt (dumN N (N 3).toNat) (N 5 + N 3).toNat := by
  obtain ⟨-, i0, i1, i2, i3, i4, i5, i6⟩ := id h
  obtain ⟨d1, d2, d3, d4⟩ := dum_f h (N 3).toNat (by omega)
  rw [show (N 5 + ((N 3).toNat : Int)).toNat = (N 5 + N 3).toNat by omega] at d4
  have h0 := cnt_0 N (N 5).toNat
  unfold rndGo shr
  rw [d4]
  unfold begP at hb
  split at hb
  next e => rw [if_pos e]; omega
  next e =>
    rw [if_neg e]
    split at hb
    next e1 => rw [if_neg (by omega)]; omega
    next e1 =>
      split at hb
      next e2 => rw [if_neg (by omega)]; omega
      next e2 => rw [if_pos (by omega)]; omega
/-- letter i was inside as round r came -/
def wasP (N : Row) (r i : Int) : Prop := lf N i 2 ≤ r ∧ (lf N i 3 = -4 ∨ r ≤ lf N i 3)
def rofP (N : Row) (r v i : Int) : Prop := (v = 0 ∧ wasP N r i) ∨ (v = 1 ∧ lf N i 3 = r) ∨ (v = 2 ∧ lf N i 3 = r ∧ lf N i 0 = 9) ∨ (v = 3 ∧ wasP N r i ∧ lf N i 0 ≠ 9) ∨ (v = 4 ∧ lf N i 3 = r ∧ lf N i 0 ≠ 9) ∨ (v = 5 ∧ wasP N r i ∧ lf N i 0 = 8 ∧ lf N i 2 = r)
noncomputable def rof (N : Row) (r v : Int) : Nat → Int
  | 0 => 0
  | n + 1 => rof N r v n + bC (rofP N r v (n : Int))
theorem rof_S (N : Row) (r v i : Int) (h : 0 ≤ i) : rof N r v (i + 1).toNat = rof N r v i.toNat + bC (rofP N r v i) := by
  rw [show (i + 1).toNat = i.toNat + 1 by omega]
  simp only [rof]
  rw [show ((i.toNat : Nat) : Int) = i by omega]
theorem rof_0 (N : Row) (r v : Int) (n : Nat) : 0 ≤ rof N r v n ∧ rof N r v n ≤ n := by
  induction n with
  | zero => simp [rof]
  | succ n ih =>
    have := bC01 (rofP N r v (n : Int))
    simp only [rof]
    omega
/-- the letter that went as out k of round r -/
def lout (N : Row) (r k : Int) : Nat → Int
  | 0 => -4
  | n + 1 => if lf N (n : Int) 3 = r ∧ lf N (n : Int) 4 = k then (n : Int) else lout N r k n
theorem lout_S (N : Row) (r k i : Int) (h : 0 ≤ i) : lout N r k (i + 1).toNat = if lf N i 3 = r ∧ lf N i 4 = k then i else lout N r k i.toNat := by
  rw [show (i + 1).toNat = i.toNat + 1 by omega]
  show (if lf N ((i.toNat : Nat) : Int) 3 = r ∧ lf N ((i.toNat : Nat) : Int) 4 = k then ((i.toNat : Nat) : Int) else lout N r k i.toNat) = _
  rw [show ((i.toNat : Nat) : Int) = i by omega]
theorem lout_rg (N : Row) (r k : Int) (n : Nat) : lout N r k n = -4 ∨ (0 ≤ lout N r k n ∧ lout N r k n < n ∧ lf N (lout N r k n) 3 = r ∧ lf N (lout N r k n) 4 = k) := by
  induction n with
  | zero => exact Or.inl rfl
  | succ n ih =>
    unfold lout
    split
    next h => exact Or.inr ⟨by omega, by omega, h.1, h.2⟩
    next h =>
      rcases ih with ih | ih
      · exact Or.inl ih
      · exact Or.inr ⟨ih.1, by omega, ih.2.2⟩
def blendV (N : Row) : Int := if N 0 ≠ 0 ∨ 0 < N 3 then -4 else (if cnt N (N 5).toNat = 0 then 0 else if N 1 - cnt N (N 5).toNat < 1 then 1 else N 1 - cnt N (N 5).toNat) + N 1 - 1
def toldOk (v x : Int) : Prop := (v = 0 ∧ 0 ≤ x ∧ x ≤ 3) ∨ (v = 1 ∧ 1 ≤ x ∧ x ≤ 8) ∨ (v = 2 ∧ 0 ≤ x ∧ x ≤ 4) ∨ (v = 3 ∧ 0 ≤ x ∧ x ≤ 3)
