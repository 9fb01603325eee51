/-! ===== all cells together ===== -/
def rhoG (h0 q a2 q2 a4 q4 : Nat) (r1 r3 r5 rM : Nat → Nat) (R2 R4 R : Nat → Nat → Nat) : Nat → Nat → Nat := fun c j => if c = 0 then (if j = 0 then h0 else q) else if c = 1 then r1 j else if c ≤ 7 then R2 (c - 2) j else if c = 8 then r3 j else if c ≤ 14 then R4 (c - 9) j else if c = 15 then (if j = 0 then a2 else q2) else if c = 16 then (if j = 0 then a4 else q4) else if c = 17 then r5 j else if c ≤ 21 then R (c - 18) j else rM j
def casG (cq cq2 cq4 : ClassId) (k1 k3 k5 kM : Nat → ClassId) (K2 K4 K : Nat → Nat → ClassId) : Nat → Nat → ClassId := fun c j => if c = 0 then cq else if c = 1 then k1 j else if c ≤ 7 then K2 (c - 2) j else if c = 8 then k3 j else if c ≤ 14 then K4 (c - 9) j else if c = 15 then cq2 else if c = 16 then cq4 else if c = 17 then k5 j else if c ≤ 21 then K (c - 18) j else kM j
def WWG (h0 q a2 q2 a4 q4 : Nat) (r1 r3 r5 rM : Nat → Nat) (R2 R4 R : Nat → Nat → Nat) (cq cq2 cq4 : ClassId) (k1 k3 k5 kM : Nat → ClassId) (K2 K4 K : Nat → Nat → ClassId) : va_W := wXb h0 (r1 0) a2 (r3 0) a4 (r5 0) q cq ((((wB r1 k1 ++ wPb a2 q2 cq2 R2 K2 6) ++ wB r3 k3) ++ wPb a4 q4 cq4 R4 K4 6) ++ wT r5 k5) R K 4 ++ wM rM kM
def TTG (cq cq2 cq4 : ClassId) (k1 k3 k5 kM : Nat → ClassId) (K2 K4 K : Nat → Nat → ClassId) : List (ClassId × FieldType) := tXb ((((tB k1 ++ tPb cq2 K2 6) ++ tB k3) ++ tPb cq4 K4 6) ++ tT k5) cq K 4 ++ tM kM
theorem fW_mem {f : (Nat → Nat) → (Nat → ClassId) → va_W} {R : Nat → Nat → Nat} {K : Nat → Nat → ClassId} {x : Nat × va_E} : ∀ (b i : Nat), i < b → x ∈ f (R i) (K i) → x ∈ fW f R K b := by
  intro b
  induction b with
  | zero => intro i hi; omega
  | succ b ih =>
    intro i hi hx
    simp only [fW]
    by_cases h : i = b
    · subst h; exact List.mem_append_right _ hx
    · exact List.mem_append_left _ (ih i (by omega) hx)
theorem fT_mem {f : (Nat → ClassId) → List (ClassId × FieldType)} {K : Nat → Nat → ClassId} {x : ClassId × FieldType} : ∀ (b i : Nat), i < b → x ∈ f (K i) → x ∈ fT f K b := by
  intro b
  induction b with
  | zero => intro i hi; omega
  | succ b ih =>
    intro i hi hx
    simp only [fT]
    by_cases h : i = b
    · subst h; exact List.mem_append_right _ hx
    · exact List.mem_append_left _ (ih i (by omega) hx)
def bB (r : Nat → Nat) : List Nat := [r 0, r 1, r 4, r 5, r 6, r 7, r 8, r 10, r 12, r 13]
def bH (r : Nat → Nat) : List Nat := [r 0, r 3]
def bT (r : Nat → Nat) : List Nat := [r 0, r 1, r 3, r 4]
def bM (r : Nat → Nat) : List Nat := [r 0, r 1, r 2, r 3, r 4, r 8, r 10, r 11, r 13, r 14, r 15, r 16]
section Asm
variable {h0 q a2 q2 a4 q4 : Nat} {r1 r3 r5 rM : Nat → Nat} {R2 R4 R : Nat → Nat → Nat} {cq cq2 cq4 : ClassId} {k1 k3 k5 kM : Nat → ClassId} {K2 K4 K : Nat → Nat → ClassId} {D : va_G} {H : Heap} {s : State} {A : Nat → Prop}
set_option maxRecDepth 100000 in
theorem wMap : (WWG h0 q a2 q2 a4 q4 r1 r3 r5 rM R2 R4 R cq cq2 cq4 k1 k3 k5 kM K2 K4 K).map Prod.fst = [h0, q] ++ ((((((bB r1 ++ ([a2, q2] ++ ((((((([] ++ bB (R2 0)) ++ bB (R2 1)) ++ bB (R2 2)) ++ bB (R2 3)) ++ bB (R2 4)) ++ bB (R2 5))))) ++ bB r3) ++ ([a4, q4] ++ ((((((([] ++ bB (R4 0)) ++ bB (R4 1)) ++ bB (R4 2)) ++ bB (R4 3)) ++ bB (R4 4)) ++ bB (R4 5))))) ++ bT r5) ++ (((([] ++ bH (R 0)) ++ bH (R 1)) ++ bH (R 2)) ++ bH (R 3))) ++ bM rM) := rfl
set_option maxRecDepth 100000 in
theorem vMap : vs.map (fun p => (rhoG h0 q a2 q2 a4 q4 r1 r3 r5 rM R2 R4 R) p.1 p.2) = [h0, q] ++ (bB r1 ++ (bB (R2 0) ++ (bB (R2 1) ++ (bB (R2 2) ++ (bB (R2 3) ++ (bB (R2 4) ++ (bB (R2 5) ++ (bB r3 ++ (bB (R4 0) ++ (bB (R4 1) ++ (bB (R4 2) ++ (bB (R4 3) ++ (bB (R4 4) ++ (bB (R4 5) ++ ([a2, q2] ++ ([a4, q4] ++ (bT r5 ++ (bH (R 0) ++ (bH (R 1) ++ (bH (R 2) ++ (bH (R 3) ++ bM rM))))))))))))))))))))) := rfl
theorem pMap : ((WWG h0 q a2 q2 a4 q4 r1 r3 r5 rM R2 R4 R cq cq2 cq4 k1 k3 k5 kM K2 K4 K).map Prod.fst).Perm (vs.map (fun p => (rhoG h0 q a2 q2 a4 q4 r1 r3 r5 rM R2 R4 R) p.1 p.2)) := by
  rw [wMap, vMap]
  refine List.perm_iff_count.mpr (fun a => ?_)
  simp only [List.count_append, List.count_nil]
  omega
theorem asmR (l : Launch) (st : Nat → Nat) (b L : Nat) (xs : Nat → Int32) (hD : va_D A (WWG h0 q a2 q2 a4 q4 r1 r3 r5 rM R2 R4 R cq cq2 cq4 k1 k3 k5 kM K2 K4 K)) : RhoOk (l, rhoG h0 q a2 q2 a4 q4 r1 r3 r5 rM R2 R4 R, A, D, casG cq cq2 cq4 k1 k3 k5 kM K2 K4 K, st, b, L, xs) := by
  obtain ⟨n1, n2⟩ := hD.toN
  have hn := (pMap (h0 := h0) (q := q) (a2 := a2) (q2 := q2) (a4 := a4) (q4 := q4) (r1 := r1) (r3 := r3) (r5 := r5) (rM := rM) (R2 := R2) (R4 := R4) (R := R) (cq := cq) (cq2 := cq2) (cq4 := cq4) (k1 := k1) (k3 := k3) (k5 := k5) (kM := kM) (K2 := K2) (K4 := K4) (K := K)).nodup_iff.mp n1
  have hp := List.pairwise_iff_getElem.mp hn
  refine ⟨fun x hx y hy e => ?_, fun x hx => ?_⟩
  · obtain ⟨i, hi, ex⟩ := List.getElem_of_mem hx
    obtain ⟨j, hj, ey⟩ := List.getElem_of_mem hy
    have e : (rhoG h0 q a2 q2 a4 q4 r1 r3 r5 rM R2 R4 R) x.1 x.2 = (rhoG h0 q a2 q2 a4 q4 r1 r3 r5 rM R2 R4 R) y.1 y.2 := e
    rcases Nat.lt_trichotomy i j with hij | hij | hij
    · have := hp i j (by rw [List.length_map]; exact hi) (by rw [List.length_map]; exact hj) hij
      rw [List.getElem_map, List.getElem_map, ex, ey] at this
      exact absurd e this
    · subst hij; rw [← ex, ← ey]
    · have := hp j i (by rw [List.length_map]; exact hj) (by rw [List.length_map]; exact hi) hij
      rw [List.getElem_map, List.getElem_map, ex, ey] at this
      exact absurd e.symm this
  · have hm : (rhoG h0 q a2 q2 a4 q4 r1 r3 r5 rM R2 R4 R) x.1 x.2 ∈ vs.map (fun p => (rhoG h0 q a2 q2 a4 q4 r1 r3 r5 rM R2 R4 R) p.1 p.2) := List.mem_map_of_mem hx
    have hm2 := (pMap (cq := cq) (cq2 := cq2) (cq4 := cq4) (k1 := k1) (k3 := k3) (k5 := k5) (kM := kM) (K2 := K2) (K4 := K4) (K := K)).mem_iff.mpr hm
    obtain ⟨z, hz, ez⟩ := List.mem_map.mp hm2
    show A ((rhoG h0 q a2 q2 a4 q4 r1 r3 r5 rM R2 R4 R) x.1 x.2)
    rw [← ez]
    exact n2 z hz
theorem asmH (l : Launch) (st : Nat → Nat) (b L : Nat) (xs : Nat → Int32) (hP : va_P D vwCl (WWG h0 q a2 q2 a4 q4 r1 r3 r5 rM R2 R4 R cq cq2 cq4 k1 k3 k5 kM K2 K4 K) H) : Hd (l, rhoG h0 q a2 q2 a4 q4 r1 r3 r5 rM R2 R4 R, A, D, casG cq cq2 cq4 k1 k3 k5 kM K2 K4 K, st, b, L, xs) S0 H := by
  have hm : ∀ x ∈ WWG h0 q a2 q2 a4 q4 r1 r3 r5 rM R2 R4 R cq cq2 cq4 k1 k3 k5 kM K2 K4 K, va_at D vwCl x H := fun x hx => by
    obtain ⟨i, hi⟩ := List.getElem?_of_mem hx
    exact hP i x hi
  have hm2 : ∀ x ∈ (((wB r1 k1 ++ wPb a2 q2 cq2 R2 K2 6) ++ wB r3 k3) ++ wPb a4 q4 cq4 R4 K4 6) ++ wT r5 k5, va_at D vwCl x H := fun x hx => hm x (List.mem_append_left _ (List.mem_cons_of_mem _ (List.mem_cons_of_mem _ (List.mem_append_left _ hx))))
  have m1 : ∀ x ∈ wB r1 k1, va_at D vwCl x H := fun x hx => hm2 x (List.mem_append_left _ (List.mem_append_left _ (List.mem_append_left _ (List.mem_append_left _ hx))))
  have m15 : ∀ x ∈ wPb a2 q2 cq2 R2 K2 6, va_at D vwCl x H := fun x hx => hm2 x (List.mem_append_left _ (List.mem_append_left _ (List.mem_append_left _ (List.mem_append_right _ hx))))
  have m8 : ∀ x ∈ wB r3 k3, va_at D vwCl x H := fun x hx => hm2 x (List.mem_append_left _ (List.mem_append_left _ (List.mem_append_right _ hx)))
  have m16 : ∀ x ∈ wPb a4 q4 cq4 R4 K4 6, va_at D vwCl x H := fun x hx => hm2 x (List.mem_append_left _ (List.mem_append_right _ hx))
  have m17 : ∀ x ∈ wT r5 k5, va_at D vwCl x H := fun x hx => hm2 x (List.mem_append_right _ hx)
  have m22 : ∀ x ∈ wM rM kM, va_at D vwCl x H := fun x hx => hm x (List.mem_append_right _ hx)
  have m2 : ∀ i, i < 6 → ∀ x ∈ wB (R2 i) (K2 i), va_at D vwCl x H := fun i hi x hx => m15 x (List.mem_cons_of_mem _ (List.mem_cons_of_mem _ (fW_mem 6 i hi hx)))
  have m9 : ∀ i, i < 6 → ∀ x ∈ wB (R4 i) (K4 i), va_at D vwCl x H := fun i hi x hx => m16 x (List.mem_cons_of_mem _ (List.mem_cons_of_mem _ (fW_mem 6 i hi hx)))
  have m18 : ∀ i, i < 4 → ∀ x ∈ wH (R i) (K i), va_at D vwCl x H := fun i hi x hx => hm x (List.mem_append_left _ (List.mem_cons_of_mem _ (List.mem_cons_of_mem _ (List.mem_append_right _ (fW_mem 4 i hi hx)))))
  have p0 := hm _ (List.mem_append_left _ List.mem_cons_self)
  have p1 := hm _ (List.mem_append_left _ (List.mem_cons_of_mem _ List.mem_cons_self))
  intro n x hx
  obtain ⟨⟨c, j⟩, hv, rfl⟩ := List.mem_map.mp (List.mem_of_getElem? hx)
  have hc := (vs_ok _ hv).1
  dsimp only at hc ⊢
  rcases (show c = 0 ∨ c = 1 ∨ (2 ≤ c ∧ c ≤ 7) ∨ c = 8 ∨ (9 ≤ c ∧ c ≤ 14) ∨ c = 15 ∨ c = 16 ∨ c = 17 ∨ (18 ≤ c ∧ c ≤ 21) ∨ c = 22 by omega) with rfl | rfl | hc | rfl | hc | rfl | rfl | rfl | hc | rfl
  · exact at_X (R := R) rfl rfl rfl (fun i hi => by
      show (rhoG h0 q a2 q2 a4 q4 r1 r3 r5 rM R2 R4 R) (18 + i) 0 = R i 0
      unfold rhoG
      rw [if_neg (by omega), if_neg (by omega), if_neg (by omega), if_neg (by omega), if_neg (by omega), if_neg (by omega), if_neg (by omega), if_neg (by omega), if_pos (by omega), show 18 + i - 18 = i by omega]) p0 p1 j hv
  · exact at_B (r := r1) (k := k1) (by decide) rfl rfl m1 j hv
  · refine at_B (r := R2 (c - 2)) (k := K2 (c - 2)) (by omega) ?_ ?_ (m2 (c - 2) (by omega)) j hv
    · funext z; show (rhoG h0 q a2 q2 a4 q4 r1 r3 r5 rM R2 R4 R) c z = _; unfold rhoG; rw [if_neg (by omega), if_neg (by omega), if_pos (by omega)]
    · funext z; show (casG cq cq2 cq4 k1 k3 k5 kM K2 K4 K) c z = _; unfold casG; rw [if_neg (by omega), if_neg (by omega), if_pos (by omega)]
  · exact at_B (r := r3) (k := k3) (by decide) rfl rfl m8 j hv
  · refine at_B (r := R4 (c - 9)) (k := K4 (c - 9)) (by omega) ?_ ?_ (m9 (c - 9) (by omega)) j hv
    · funext z; show (rhoG h0 q a2 q2 a4 q4 r1 r3 r5 rM R2 R4 R) c z = _; unfold rhoG; rw [if_neg (by omega), if_neg (by omega), if_neg (by omega), if_neg (by omega), if_pos (by omega)]
    · funext z; show (casG cq cq2 cq4 k1 k3 k5 kM K2 K4 K) c z = _; unfold casG; rw [if_neg (by omega), if_neg (by omega), if_neg (by omega), if_neg (by omega), if_pos (by omega)]
  · refine at_P (R := R2) (K := K2) (by decide) rfl rfl rfl (fun i hi => ?_) m15 j hv
    show (rhoG h0 q a2 q2 a4 q4 r1 r3 r5 rM R2 R4 R) (2 + i) 0 = R2 i 0
    unfold rhoG
    rw [if_neg (by omega), if_neg (by omega), if_pos (by omega), show 2 + i - 2 = i by omega]
  · refine at_P (R := R4) (K := K4) (by decide) rfl rfl rfl (fun i hi => ?_) m16 j hv
    show (rhoG h0 q a2 q2 a4 q4 r1 r3 r5 rM R2 R4 R) (9 + i) 0 = R4 i 0
    unfold rhoG
    rw [if_neg (by omega), if_neg (by omega), if_neg (by omega), if_neg (by omega), if_pos (by omega), show 9 + i - 9 = i by omega]
  · exact at_T (r := r5) (k := k5) rfl rfl m17 j hv
  · refine at_H (r := R (c - 18)) (k := K (c - 18)) hc ?_ ?_ (m18 (c - 18) (by omega)) j hv
    · funext z; show (rhoG h0 q a2 q2 a4 q4 r1 r3 r5 rM R2 R4 R) c z = _; unfold rhoG; rw [if_neg (by omega), if_neg (by omega), if_neg (by omega), if_neg (by omega), if_neg (by omega), if_neg (by omega), if_neg (by omega), if_neg (by omega), if_pos (by omega)]
    · funext z; show (casG cq cq2 cq4 k1 k3 k5 kM K2 K4 K) c z = _; unfold casG; rw [if_neg (by omega), if_neg (by omega), if_neg (by omega), if_neg (by omega), if_neg (by omega), if_neg (by omega), if_neg (by omega), if_neg (by omega), if_pos (by omega)]
  · exact at_M (r := rM) (k := kM) rfl rfl m22 j hv
theorem asmK (l : Launch) (st : Nat → Nat) (b L : Nat) (xs : Nat → Int32) (hK : va_K D vwCl (TTG cq cq2 cq4 k1 k3 k5 kM K2 K4 K) s) : va_K D vwCl (tysG (l, rhoG h0 q a2 q2 a4 q4 r1 r3 r5 rM R2 R4 R, A, D, casG cq cq2 cq4 k1 k3 k5 kM K2 K4 K, st, b, L, xs)) s := by
  have hm : ∀ x ∈ TTG cq cq2 cq4 k1 k3 k5 kM K2 K4 K, ArrOfT s x.1 x.2 ∧ va_RA s x.1 x.2 := fun x hx => by
    obtain ⟨i, hi⟩ := List.getElem?_of_mem hx
    exact hK.2 i x hi
  refine ⟨hK.1, fun n x hx => hm x ?_⟩
  obtain ⟨⟨c, t⟩, hv, he⟩ := List.mem_filterMap.mp (List.mem_of_getElem? hx)
  have hc := (vs_ok _ hv).1
  dsimp only at hc he
  cases t with
  | zero => rw [if_pos rfl] at he; cases he
  | succ j =>
  rw [if_neg (Nat.succ_ne_zero j)] at he
  have he := Option.some.inj he
  subst he
  rw [show j + 1 - 1 = j by omega]
  have u1 : ∀ z, z ∈ (((tB k1 ++ tPb cq2 K2 6) ++ tB k3) ++ tPb cq4 K4 6) ++ tT k5 → z ∈ TTG cq cq2 cq4 k1 k3 k5 kM K2 K4 K := fun z hz => List.mem_append_left _ (List.mem_append_left _ (List.mem_append_left _ hz))
  rcases (show c = 0 ∨ c = 1 ∨ (2 ≤ c ∧ c ≤ 7) ∨ c = 8 ∨ (9 ≤ c ∧ c ≤ 14) ∨ c = 15 ∨ c = 16 ∨ c = 17 ∨ (18 ≤ c ∧ c ≤ 21) ∨ c = 22 by omega) with rfl | rfl | hc | rfl | hc | rfl | rfl | rfl | hc | rfl
  · exact List.mem_append_left _ (ty_X (G := (l, rhoG h0 q a2 q2 a4 q4 r1 r3 r5 rM R2 R4 R, A, D, casG cq cq2 cq4 k1 k3 k5 kM K2 K4 K, st, b, L, xs)) (cq := cq) rfl j hv)
  · exact u1 _ (List.mem_append_left _ (List.mem_append_left _ (List.mem_append_left _ (List.mem_append_left _ (ty_B (G := (l, rhoG h0 q a2 q2 a4 q4 r1 r3 r5 rM R2 R4 R, A, D, casG cq cq2 cq4 k1 k3 k5 kM K2 K4 K, st, b, L, xs)) (k := k1) (by decide) rfl j hv)))))
  · refine u1 _ (List.mem_append_left _ (List.mem_append_left _ (List.mem_append_left _ (List.mem_append_right _ (List.mem_cons_of_mem _ (fT_mem 6 (c - 2) (by omega) (ty_B (G := (l, rhoG h0 q a2 q2 a4 q4 r1 r3 r5 rM R2 R4 R, A, D, casG cq cq2 cq4 k1 k3 k5 kM K2 K4 K, st, b, L, xs)) (k := K2 (c - 2)) (by omega) ?_ j hv)))))))
    funext z; show (casG cq cq2 cq4 k1 k3 k5 kM K2 K4 K) c z = _; unfold casG; rw [if_neg (by omega), if_neg (by omega), if_pos (by omega)]
  · exact u1 _ (List.mem_append_left _ (List.mem_append_left _ (List.mem_append_right _ (ty_B (G := (l, rhoG h0 q a2 q2 a4 q4 r1 r3 r5 rM R2 R4 R, A, D, casG cq cq2 cq4 k1 k3 k5 kM K2 K4 K, st, b, L, xs)) (k := k3) (by decide) rfl j hv))))
  · refine u1 _ (List.mem_append_left _ (List.mem_append_right _ (List.mem_cons_of_mem _ (fT_mem 6 (c - 9) (by omega) (ty_B (G := (l, rhoG h0 q a2 q2 a4 q4 r1 r3 r5 rM R2 R4 R, A, D, casG cq cq2 cq4 k1 k3 k5 kM K2 K4 K, st, b, L, xs)) (k := K4 (c - 9)) (by omega) ?_ j hv)))))
    funext z; show (casG cq cq2 cq4 k1 k3 k5 kM K2 K4 K) c z = _; unfold casG; rw [if_neg (by omega), if_neg (by omega), if_neg (by omega), if_neg (by omega), if_pos (by omega)]
  · exact u1 _ (List.mem_append_left _ (List.mem_append_left _ (List.mem_append_left _ (List.mem_append_right _ (ty_P (G := (l, rhoG h0 q a2 q2 a4 q4 r1 r3 r5 rM R2 R4 R, A, D, casG cq cq2 cq4 k1 k3 k5 kM K2 K4 K, st, b, L, xs)) (by decide) rfl j hv)))))
  · exact u1 _ (List.mem_append_left _ (List.mem_append_right _ (ty_P (G := (l, rhoG h0 q a2 q2 a4 q4 r1 r3 r5 rM R2 R4 R, A, D, casG cq cq2 cq4 k1 k3 k5 kM K2 K4 K, st, b, L, xs)) (by decide) rfl j hv)))
  · exact u1 _ (List.mem_append_right _ (ty_T (G := (l, rhoG h0 q a2 q2 a4 q4 r1 r3 r5 rM R2 R4 R, A, D, casG cq cq2 cq4 k1 k3 k5 kM K2 K4 K, st, b, L, xs)) (k := k5) rfl j hv))
  · refine List.mem_append_left _ (List.mem_append_right _ (fT_mem 4 (c - 18) (by omega) (ty_H (G := (l, rhoG h0 q a2 q2 a4 q4 r1 r3 r5 rM R2 R4 R, A, D, casG cq cq2 cq4 k1 k3 k5 kM K2 K4 K, st, b, L, xs)) (k := K (c - 18)) hc ?_ j hv)))
    funext z; show (casG cq cq2 cq4 k1 k3 k5 kM K2 K4 K) c z = _; unfold casG; rw [if_neg (by omega), if_neg (by omega), if_neg (by omega), if_neg (by omega), if_neg (by omega), if_neg (by omega), if_neg (by omega), if_neg (by omega), if_pos (by omega)]
  · exact List.mem_append_right _ (ty_M (G := (l, rhoG h0 q a2 q2 a4 q4 r1 r3 r5 rM R2 R4 R, A, D, casG cq cq2 cq4 k1 k3 k5 kM K2 K4 K, st, b, L, xs)) (k := kM) rfl j hv)
end Asm
