/-! ===== texts; calls as functions ===== -/
noncomputable def cif {α : Type} (p : Prop) (a b : α) : α := @ite α p (Classical.propDecidable p) a b
theorem cif_pos {α : Type} {p : Prop} {a b : α} (h : p) : cif p a b = a := @if_pos p (Classical.propDecidable p) h α a b
theorem cif_neg {α : Type} {p : Prop} {a b : α} (h : ¬ p) : cif p a b = b := @if_neg p (Classical.propDecidable p) h α a b
noncomputable def comeF (N : Row) (a r : Int) : Int × Row := cif (FullP N ∨ 12 ≤ cnt N (N 5).toNat) (-3, N) (cif (begP (addN N a r) (N 0) False (cnt N (N 5).toNat + 1)) (rndGo (addN N a r), rndN (addN N a r)) (0, addN N a r))
noncomputable def tickF (N : Row) : Int × Row := cif (FullP N) (-3, N) (cif (begP N (N 0) True (cnt N (N 5).toNat)) (rndGo N, rndN N) (0, N))
theorem ComeR.eq {N : Row} {a r z : Int} {N' : Row} (h : ComeR N a r z N') : comeF N a r = (z, N') := by
  unfold comeF
  rcases h with ⟨h1, rfl, rfl⟩ | ⟨h1, h2, rfl, rfl⟩ | ⟨h1, h2, rfl, rfl⟩
  · rw [cif_pos h1]
  · rw [cif_neg h1, cif_neg h2]
  · rw [cif_neg h1, cif_pos h2]
theorem TickR.eq {N : Row} {z : Int} {N' : Row} (h : TickR N z N') : tickF N = (z, N') := by
  unfold tickF
  rcases h with ⟨h1, rfl, rfl⟩ | ⟨h1, h2, rfl, rfl⟩ | ⟨h1, h2, rfl, rfl⟩
  · rw [cif_pos h1]
  · rw [cif_neg h1, cif_neg h2]
  · rw [cif_neg h1, cif_pos h2]
/-- behind blanks -/
def skF (T : Row) (L : Int) : Nat → Int → Int
  | 0, p => p
  | n + 1, p => if p < L ∧ T p.toNat = 32 then skF T L n (p + 1) else p
def skp (T : Row) (L p : Int) : Int := skF T L (L - p).toNat p
theorem skp_st {T : Row} {L p : Int} (h : p < L) (h2 : T p.toNat = 32) : skp T L p = skp T L (p + 1) := by
  unfold skp
  rw [show (L - p).toNat = (L - (p + 1)).toNat + 1 by omega]
  show (if p < L ∧ T p.toNat = 32 then _ else _) = _
  rw [if_pos ⟨h, h2⟩]
theorem skp_en {T : Row} {L p : Int} (h : ¬ (p < L ∧ T p.toNat = 32)) : skp T L p = p := by
  unfold skp
  cases hn : (L - p).toNat with
  | zero => rfl
  | succ n =>
    show (if p < L ∧ T p.toNat = 32 then _ else _) = _
    rw [if_neg h]
theorem skp_rg {T : Row} {L p : Int} (hp : p ≤ L) : p ≤ skp T L p ∧ skp T L p ≤ L ∧ ¬ (skp T L p < L ∧ T (skp T L p).toNat = 32) := by
  obtain ⟨n, hn⟩ : ∃ n : Nat, L - p = n := Int.eq_ofNat_of_zero_le (by omega)
  induction n generalizing p with
  | zero => rw [skp_en (by omega)]; exact ⟨by omega, hp, by omega⟩
  | succ n ih =>
    by_cases h : p < L ∧ T p.toNat = 32
    · rw [skp_st h.1 h.2]
      obtain ⟨a, b, c⟩ := ih (p := p + 1) (by omega) (by omega)
      exact ⟨by omega, b, c⟩
    · rw [skp_en h]; exact ⟨by omega, hp, h⟩
theorem skp_id {T : Row} {L p : Int} (hp : p ≤ L) : skp T L (skp T L p) = skp T L p := skp_en (skp_rg hp).2.2
/-- the sign at a place; 0: the end -/
def sg (T : Row) (L p : Int) : Int := if p < L then T p.toNat else 0
/-- an event: what it tells, and the place behind it (or of the fault) -/
def evF (T : Row) (L p : Int) : Int × Int :=
  if sg T L (skp T L p) = 46 then (99, skp T L p + 1)
  else if ¬ ((48 ≤ sg T L (skp T L p) ∧ sg T L (skp T L p) ≤ 55) ∨ sg T L (skp T L p) = 33) then (-1, skp T L p)
  else if sg T L (skp T L (skp T L p + 1)) ≠ 62 then (-1, skp T L (skp T L p + 1))
  else if ¬ (48 ≤ sg T L (skp T L (skp T L (skp T L p + 1) + 1)) ∧ sg T L (skp T L (skp T L (skp T L p + 1) + 1)) ≤ 55) then (-1, skp T L (skp T L (skp T L p + 1) + 1))
  else (10 * (if sg T L (skp T L p) = 33 then 9 else sg T L (skp T L p) - 48) + sg T L (skp T L (skp T L (skp T L p + 1) + 1)) - 48, skp T L (skp T L (skp T L p + 1) + 1) + 1)
def TOk (T : Row) (L : Int) : Prop := (0 ≤ L ∧ L ≤ 90) ∧ ∀ k : Nat, (k : Int) < L → 32 ≤ T k ∧ T k ≤ 126
theorem sg_rg {T : Row} {L p : Int} (h : TOk T L) (hp : 0 ≤ p) : (sg T L p = 0 ∧ L ≤ p) ∨ (32 ≤ sg T L p ∧ sg T L p ≤ 126 ∧ p < L) := by
  unfold sg
  split
  next hl => right; have := h.2 p.toNat (by omega); omega
  next hl => left; exact ⟨rfl, by omega⟩
theorem evF_rg {T : Row} {L p : Int} (h : TOk T L) (hp : 0 ≤ p ∧ p ≤ L) : p ≤ (evF T L p).2 ∧ (evF T L p).2 ≤ L ∧ ((evF T L p).1 = -1 ∨ (evF T L p).1 = 99 ∨ (0 ≤ (evF T L p).1 ∧ (evF T L p).1 ≤ 97 ∧ (evF T L p).1 % 10 ≤ 7)) ∧ (0 ≤ (evF T L p).1 → p < (evF T L p).2) := by
  obtain ⟨a1, a2, a3⟩ := skp_rg (T := T) hp.2
  have s1 := sg_rg h (show 0 ≤ skp T L p by omega)
  unfold evF
  split
  · dsimp only; omega
  · split
    · dsimp only; omega
    · next n1 n2 =>
      obtain ⟨b1, b2, b3⟩ := skp_rg (T := T) (L := L) (p := skp T L p + 1) (by omega)
      have s2 := sg_rg h (show 0 ≤ skp T L (skp T L p + 1) by omega)
      split
      · dsimp only; omega
      · next n3 =>
        obtain ⟨c1, c2, c3⟩ := skp_rg (T := T) (L := L) (p := skp T L (skp T L p + 1) + 1) (by omega)
        have s3 := sg_rg h (show 0 ≤ skp T L (skp T L (skp T L p + 1) + 1) by omega)
        split
        · dsimp only; omega
        · dsimp only
          split <;> omega
/-- all events: whether they can stand, how many, the place -/
def gth (T : Row) (L : Int) : Nat → Int → Int → Bool × Int × Int
  | 0, e, p => (true, e, p)
  | f + 1, e, p => if e ≠ 0 ∧ L ≤ skp T L p then (true, e, skp T L p) else if (evF T L p).1 < 0 then (false, e, (evF T L p).2) else gth T L f (e + 1) (evF T L p).2
noncomputable def evDo (N : Row) (c : Int) : Int × Row := if c = 99 then tickF N else comeF N (c / 10) (c % 10)
noncomputable def gthD (T : Row) (L : Int) : Nat → Int → Int → Row → Int × Int × Row
  | 0, e, p, N => (e, p, N)
  | f + 1, e, p, N => if e ≠ 0 ∧ L ≤ skp T L p then (e, skp T L p, N) else if (evF T L p).1 < 0 then (e, (evF T L p).2, N) else if (evDo N (evF T L p).1).1 < 0 then (e, (evF T L p).2, (evDo N (evF T L p).1).2) else gthD T L f (e + 1) (evF T L p).2 (evDo N (evF T L p).1).2
/-- rows stay rows -/
theorem rnd_NR {N : Row} (h : NR N) (hd : N 5 + N 3 ≤ 79) (h6 : N 6 < 12) (hg : 0 ≤ rndGo N ∧ rndGo N ≤ cnt (dumN N (N 3).toNat) (N 5 + N 3).toNat) : NR (rndN N) := by
  have i3 := h.2.2.2.2.1
  have i6 := h.2.2.2.2.2.2.2
  obtain ⟨d1, d2, d3, d4⟩ := dum_f h (N 3).toNat (by omega)
  obtain ⟨g1, g2, g3⟩ := outs_f d1 (rndGo N).toNat (by rw [d2, show (N 5 + ((N 3).toNat : Int)).toNat = (N 5 + N 3).toNat by omega]; omega)
  obtain ⟨a, b, c, d, e, f, g, i⟩ := g1
  unfold rndN
  refine ⟨fun k => ?_, ?_, ?_, ?_, ?_, ?_, ?_, ?_⟩
  · unfold up
    split
    · omega
    · exact a k
  · rw [up_n (by decide)]; exact b
  · rw [up_n (by decide)]; exact c
  · rw [up_n (by decide)]; exact d
  · rw [up_n (by decide)]; exact e
  · rw [up_n (by decide)]; exact f
  · rw [up_n (by decide)]; exact g
  · rw [up_s]; omega
theorem comeF_NR {N : Row} {a r : Int} (h : NR N) (ha : -2147483648 ≤ a ∧ a < 2147483648) (hr : -2147483648 ≤ r ∧ r < 2147483648) : NR (comeF N a r).2 ∧ (-3 ≤ (comeF N a r).1 ∧ (comeF N a r).1 ≤ 79) := by
  obtain ⟨-, i0, i1, i2, i3, i4, i5, i6⟩ := id h
  unfold comeF
  by_cases hf : FullP N ∨ 12 ≤ cnt N (N 5).toNat
  · rw [cif_pos hf]; exact ⟨h, by dsimp only; omega⟩
  · rw [cif_neg hf]
    have hf2 : N 5 < 76 ∧ N 6 < 12 := by unfold FullP at hf; omega
    have k2 : NR (addN N a r) := h.add (by omega) ha hr
    have e3 : addN N a r 3 = N 3 := addN_k i5.1 (by decide) (by decide)
    have e0 : addN N a r 0 = N 0 := addN_k i5.1 (by decide) (by decide)
    have e6 : addN N a r 6 = N 6 := addN_k i5.1 (by decide) (by decide)
    have e5 : addN N a r 5 = N 5 + 1 := addN_5 _ _ _
    by_cases hb : begP (addN N a r) (N 0) False (cnt N (N 5).toNat + 1)
    · rw [cif_pos hb]
      have hg := rnd_rg (T := False) k2 (by rw [e5, addN_cnt i5.1, e0]; exact hb) (by omega)
      have hc := cnt_0 (dumN (addN N a r) (addN N a r 3).toNat) (addN N a r 5 + addN N a r 3).toNat
      exact ⟨rnd_NR k2 (by omega) (by omega) (by omega), by dsimp only; omega⟩
    · rw [cif_neg hb]; exact ⟨k2, by dsimp only; omega⟩
theorem tickF_NR {N : Row} (h : NR N) : NR (tickF N).2 ∧ (-3 ≤ (tickF N).1 ∧ (tickF N).1 ≤ 79) := by
  obtain ⟨-, i0, i1, i2, i3, i4, i5, i6⟩ := id h
  unfold tickF
  by_cases hf : FullP N
  · rw [cif_pos hf]; exact ⟨h, by dsimp only; omega⟩
  · rw [cif_neg hf]
    have hf2 : N 5 < 76 ∧ N 6 < 12 := by unfold FullP at hf; omega
    by_cases hb : begP N (N 0) True (cnt N (N 5).toNat)
    · rw [cif_pos hb]
      have hg := rnd_rg (T := True) h hb (by omega)
      have hc := cnt_0 (dumN N (N 3).toNat) (N 5 + N 3).toNat
      exact ⟨rnd_NR h (by omega) (by omega) (by omega), by dsimp only; omega⟩
    · rw [cif_neg hb]; exact ⟨h, by dsimp only; omega⟩
theorem evDo_NR {N : Row} {c : Int} (h : NR N) (hc : 0 ≤ c ∧ c ≤ 99) : NR (evDo N c).2 ∧ (-3 ≤ (evDo N c).1 ∧ (evDo N c).1 ≤ 79) := by
  unfold evDo
  split
  · exact tickF_NR h
  · exact comeF_NR h (by omega) (by omega)
/-- a turn of a drift -/
noncomputable def dftN (N : Row) : Row := if dr (N 4) / 65536 % 8 = 0 then (tickF (drN N)).2 else (comeF (drN N) (dr (N 4) / 65536 / 8 % 8) (dr (N 4) / 65536 / 64 % 8)).2
noncomputable def dft : Nat → Row → Row → Int → Row × Row × Int
  | 0, N, A, u => (N, A, u)
  | n + 1, N, A, u => (dftN (dft n N A u).1, noteA (dft n N A u).2.1 (dft n N A u).2.2 (dft n N A u).1, noteU (dft n N A u).2.2)
theorem dftN_NR {N : Row} (h : NR N) : NR (dftN N) := by
  unfold dftN
  split
  · exact (tickF_NR h.dr).1
  · have := dr_rg (N 4)
    exact (comeF_NR h.dr (by omega) (by omega)).1
theorem dft_f {N A : Row} {u : Int} (h : NR N) (hu : 0 ≤ u ∧ u ≤ 6) : ∀ n, NR (dft n N A u).1 ∧ 0 ≤ (dft n N A u).2.2 ∧ (dft n N A u).2.2 ≤ 6 := by
  intro n
  induction n with
  | zero => exact ⟨h, hu⟩
  | succ n ih =>
    refine ⟨dftN_NR ih.1, ?_⟩
    show 0 ≤ noteU _ ∧ noteU _ ≤ 6
    unfold noteU
    split <;> omega
