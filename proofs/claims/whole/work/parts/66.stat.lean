/-! ===== what the start gives ===== -/
theorem toI_sz {n : Nat} (h : n < 2147483648) (e : n.toInt32 = 4) : n = 4 := by
  have h1 : (Int32.ofNat n).toInt = (n : Int) := Int32.toInt_ofNat_small h
  have h2 : (Int32.ofNat n) = 4 := e
  rw [h2] at h1
  have h3 : (4 : Int32).toInt = 4 := by decide
  omega
theorem st_least {s : State} {b : Nat} (hts : ∀ w ∈ lw_tbl, w.before #[Value.ref b] s = true) (hgv : (Jvm.Cond.and given_1 narrow_1).before #[Value.ref b] s = true) : ∃ t : Nat, va_Z "MixRounds" "LEAST" "[I" (.ref t) (fun q => s.heap.size ≤ q) s s.heap ∧ va_T .int t 4 (fun j => vI (leastJ j)) (fun q => s.heap.size ≤ q) s s.heap := by
  have hs := flat_of_before _ hgv
  have hA : ∀ a : Nat, a < s.heap.size → ¬ (fun q : Nat => s.heap.size ≤ q) a := fun a h h2 => absurd h (Nat.not_lt.mpr h2)
  obtain ⟨t, ht, hT⟩ := va_Tof (tm := (.static "MixRounds" "LEAST" "[I")) (ty := .int) (N := 4) (f := fun j => vI (leastJ j)) (A := fun q : Nat => s.heap.size ≤ q) (by decide) (hs (Cond.arrayOf (.static "MixRounds" "LEAST" "[I") .int) (by decide +kernel)) (va_eqt (hs (Cond.eq (.length (.static "MixRounds" "LEAST" "[I")) (.int 4)) (by decide +kernel))) (fun j hj => by
    match j, hj with
    | 0, _ => exact va_eqt (hs (Cond.eq (.elem (.static "MixRounds" "LEAST" "[I") (.int 0)) (.int 0)) (by decide +kernel))
    | 1, _ => exact va_eqt (hs (Cond.eq (.elem (.static "MixRounds" "LEAST" "[I") (.int 1)) (.int 1)) (by decide +kernel))
    | 2, _ => exact va_eqt (hs (Cond.eq (.elem (.static "MixRounds" "LEAST" "[I") (.int 2)) (.int 0)) (by decide +kernel))
    | 3, _ => exact va_eqt (hs (Cond.eq (.elem (.static "MixRounds" "LEAST" "[I") (.int 3)) (.int 0)) (by decide +kernel))
    | j + 4, h => omega) hA
  exact ⟨t, va_Zof (hts (.laysStatic "MixRounds" "LEAST" "[I") (List.mem_of_getElem? (i := 289) (by decide +kernel))) (hts (.initialized "MixRounds") (List.mem_of_getElem? (i := 43) (by decide +kernel))) ht hA, hT⟩
theorem st_most {s : State} {b : Nat} (hts : ∀ w ∈ lw_tbl, w.before #[Value.ref b] s = true) (hgv : (Jvm.Cond.and given_1 narrow_1).before #[Value.ref b] s = true) : ∃ t : Nat, va_Z "MixRounds" "MOST" "[I" (.ref t) (fun q => s.heap.size ≤ q) s s.heap ∧ va_T .int t 4 (fun j => vI (mostJ j)) (fun q => s.heap.size ≤ q) s s.heap := by
  have hs := flat_of_before _ hgv
  have hA : ∀ a : Nat, a < s.heap.size → ¬ (fun q : Nat => s.heap.size ≤ q) a := fun a h h2 => absurd h (Nat.not_lt.mpr h2)
  obtain ⟨t, ht, hT⟩ := va_Tof (tm := (.static "MixRounds" "MOST" "[I")) (ty := .int) (N := 4) (f := fun j => vI (mostJ j)) (A := fun q : Nat => s.heap.size ≤ q) (by decide) (hs (Cond.arrayOf (.static "MixRounds" "MOST" "[I") .int) (by decide +kernel)) (va_eqt (hs (Cond.eq (.length (.static "MixRounds" "MOST" "[I")) (.int 4)) (by decide +kernel))) (fun j hj => by
    match j, hj with
    | 0, _ => exact va_eqt (hs (Cond.eq (.elem (.static "MixRounds" "MOST" "[I") (.int 0)) (.int 3)) (by decide +kernel))
    | 1, _ => exact va_eqt (hs (Cond.eq (.elem (.static "MixRounds" "MOST" "[I") (.int 1)) (.int 8)) (by decide +kernel))
    | 2, _ => exact va_eqt (hs (Cond.eq (.elem (.static "MixRounds" "MOST" "[I") (.int 2)) (.int 4)) (by decide +kernel))
    | 3, _ => exact va_eqt (hs (Cond.eq (.elem (.static "MixRounds" "MOST" "[I") (.int 3)) (.int 3)) (by decide +kernel))
    | j + 4, h => omega) hA
  exact ⟨t, va_Zof (hts (.laysStatic "MixRounds" "MOST" "[I") (List.mem_of_getElem? (i := 291) (by decide +kernel))) (hts (.initialized "MixRounds") (List.mem_of_getElem? (i := 43) (by decide +kernel))) ht hA, hT⟩
theorem st_first {s : State} {b : Nat} (hts : ∀ w ∈ lw_tbl, w.before #[Value.ref b] s = true) (hgv : (Jvm.Cond.and given_1 narrow_1).before #[Value.ref b] s = true) : ∃ t : Nat, IK s.heap.size t s := by
  have hs := flat_of_before _ hgv
  have hA : ∀ a : Nat, a < s.heap.size → ¬ (fun q : Nat => s.heap.size ≤ q) a := fun a h h2 => absurd h (Nat.not_lt.mpr h2)
  have hlen := va_eqt (hs (Cond.eq (.length (.static "MixRounds" "AT_FIRST" "[I")) (.int 4)) (by decide +kernel))
  obtain ⟨t, ht, hT⟩ := va_Tof (tm := (.static "MixRounds" "AT_FIRST" "[I")) (ty := .int) (N := 4) (f := fun j => if j = 1 then .int 3 else if j = 2 then .int 1 else .int 0) (A := fun q : Nat => s.heap.size ≤ q) (by decide) (hs (Cond.arrayOf (.static "MixRounds" "AT_FIRST" "[I") .int) (by decide +kernel)) hlen (fun j hj => by
    match j, hj with
    | 0, _ => exact va_eqt (hs (Cond.eq (.elem (.static "MixRounds" "AT_FIRST" "[I") (.int 0)) (.int 0)) (by decide +kernel))
    | 1, _ => exact va_eqt (hs (Cond.eq (.elem (.static "MixRounds" "AT_FIRST" "[I") (.int 1)) (.int 3)) (by decide +kernel))
    | 2, _ => exact va_eqt (hs (Cond.eq (.elem (.static "MixRounds" "AT_FIRST" "[I") (.int 2)) (.int 1)) (by decide +kernel))
    | 3, _ => exact va_eqt (hs (Cond.eq (.elem (.static "MixRounds" "AT_FIRST" "[I") (.int 3)) (.int 0)) (by decide +kernel))
    | j + 4, h => omega) hA
  obtain ⟨cell, g1, g2, g3, g4, g5, g6, g7⟩ := hT
  obtain ⟨t', cell', ht', hat, -⟩ := Term.length_spec hlen
  cases ht.symm.trans ht'
  obtain ⟨hc', -, -, -⟩ := State.arrayAt?_spec hat
  cases g1.symm.trans hc'
  have hsz : cell.slots.size < 2147483648 := by
    have hl2 := hlen
    simp only [Term.eval, Option.bind_eq_bind] at hl2
    by_cases hlt : cell.slots.size < 2147483648
    · exact hlt
    · exfalso
      have ht2 : (Term.static "MixRounds" "AT_FIRST" "[I").eval #[Value.ref b] s none [] s = some (.ref t) := ht
      simp only [Term.eval, Option.bind_eq_bind] at ht2
      rw [ht2] at hl2
      simp [hat, hlt] at hl2
  have hsz4 : cell.slots.size = 4 := toI_sz hsz g5
  have hslots : cell.slots = #[.int 0, .int 3, .int 1, .int 0] := by
    apply Array.ext_getElem?
    intro i
    match i with
    | 0 => rw [g6 0 (by decide)]; rfl
    | 1 => rw [g6 1 (by decide)]; rfl
    | 2 => rw [g6 2 (by decide)]; rfl
    | 3 => rw [g6 3 (by decide)]; rfl
    | i + 4 => rw [Array.getElem?_eq_none (by omega), Array.getElem?_eq_none (by simp)]
  obtain ⟨a, c, cl2, k, e1, e2, e3, -, -, e4, -⟩ := Cond.exactly_spec (hs (Cond.exactly (.static "MixRounds" "AT_FIRST" "[I") "[I") (by decide +kernel))
  cases ht.symm.trans e1
  cases g1.symm.trans e3
  refine ⟨t, va_Zof (hts (.laysStatic "MixRounds" "AT_FIRST" "[I") (List.mem_of_getElem? (i := 68) (by decide +kernel))) (hts (.initialized "MixRounds") (List.mem_of_getElem? (i := 43) (by decide +kernel))) ht hA, ⟨cell, g1, g2.1, g3, by rw [e2, e4], hslots, g7⟩, fun w hw => ?_, va_AO.of (hts (.arrayOver (.object "MixRounds$Book")) (List.mem_of_getElem? (i := 134) (by decide +kernel))), va_AO.of (hts (.arrayOver (.object "MixRounds$Sheet")) (List.mem_of_getElem? (i := 174) (by decide +kernel)))⟩
  simp only [NIl, List.mem_cons, List.not_mem_nil, or_false] at hw
  rcases hw with rfl | rfl | rfl | rfl | rfl | rfl
  · exact va_Nw.of rfl (hts _ (List.mem_of_getElem? (i := 67) (by decide +kernel)))
  · exact va_Nw.of rfl (hts _ (List.mem_of_getElem? (i := 74) (by decide +kernel)))
  · exact va_Nw.of rfl (hts _ (List.mem_of_getElem? (i := 63) (by decide +kernel)))
  · exact va_Nw.of rfl (hts _ (List.mem_of_getElem? (i := 135) (by decide +kernel)))
  · exact va_Nw.of rfl (hts _ (List.mem_of_getElem? (i := 149) (by decide +kernel)))
  · exact va_Nw.of rfl (hts _ (List.mem_of_getElem? (i := 176) (by decide +kernel)))
theorem st_nw {s : State} {b : Nat} (hts : ∀ w ∈ lw_tbl, w.before #[Value.ref b] s = true) : NW s := by
  intro x hx
  simp only [NWl, List.mem_cons, List.not_mem_nil, or_false] at hx
  rcases hx with rfl | rfl
  · exact va_Nw.of rfl (hts _ (List.mem_of_getElem? (i := 334) (by decide +kernel)))
  · exact va_Nw.of rfl (hts _ (List.mem_of_getElem? (i := 468) (by decide +kernel)))
