/-! ===== a rule an instruction ===== -/
section Rules
variable {G : GT} {q : MKT} {pc n t : Nat} {lv : List (Option Value)} {st : List Value} {S : St} {Post : Option Value → St → Prop}
def Dk (q : MKT) (pc : Nat) (i : Instr) (len n : Nat) : Prop := decode q.2.2.1 pc = .ok (i, len) ∧ pc + len = n
def DlI (q : MKT) (pc i n : Nat) : Prop := (∃ k : Fin 4, decode q.2.2.1 pc = .ok (.iload_n k, 1) ∧ (k : Nat) = i ∧ pc + 1 = n) ∨ (decode q.2.2.1 pc = .ok (.iload i, 2) ∧ pc + 2 = n)
def DlL (q : MKT) (pc i n : Nat) : Prop := (∃ k : Fin 4, decode q.2.2.1 pc = .ok (.lload_n k, 1) ∧ (k : Nat) = i ∧ pc + 1 = n) ∨ (decode q.2.2.1 pc = .ok (.lload i, 2) ∧ pc + 2 = n)
def DlA (q : MKT) (pc i n : Nat) : Prop := (∃ k : Fin 4, decode q.2.2.1 pc = .ok (.aload_n k, 1) ∧ (k : Nat) = i ∧ pc + 1 = n) ∨ (decode q.2.2.1 pc = .ok (.aload i, 2) ∧ pc + 2 = n)
def DsI (q : MKT) (pc i n : Nat) : Prop := ((∃ k : Fin 4, decode q.2.2.1 pc = .ok (.istore_n k, 1) ∧ (k : Nat) = i ∧ pc + 1 = n) ∨ (decode q.2.2.1 pc = .ok (.istore i, 2) ∧ pc + 2 = n)) ∧ i < q.2.2.2.1
def DsL (q : MKT) (pc i n : Nat) : Prop := ((∃ k : Fin 4, decode q.2.2.1 pc = .ok (.lstore_n k, 1) ∧ (k : Nat) = i ∧ pc + 1 = n) ∨ (decode q.2.2.1 pc = .ok (.lstore i, 2) ∧ pc + 2 = n)) ∧ i + 1 < q.2.2.2.1
def DsA (q : MKT) (pc i n : Nat) : Prop := ((∃ k : Fin 4, decode q.2.2.1 pc = .ok (.astore_n k, 1) ∧ (k : Nat) = i ∧ pc + 1 = n) ∨ (decode q.2.2.1 pc = .ok (.astore i, 2) ∧ pc + 2 = n)) ∧ i < q.2.2.2.1
def Dc (q : MKT) (pc : Nat) (z : Int) (n : Nat) : Prop := (decode q.2.2.1 pc = .ok (.iconst z, 1) ∧ pc + 1 = n) ∨ (decode q.2.2.1 pc = .ok (.bipush z, 2) ∧ (Int8.ofInt z).toInt32 = iI z ∧ pc + 2 = n) ∨ (decode q.2.2.1 pc = .ok (.sipush z, 3) ∧ (Int16.ofInt z).toInt32 = iI z ∧ pc + 3 = n) ∨ (∃ idx : Nat, decode q.2.2.1 pc = .ok (.ldc idx, 2) ∧ Cond.constant q.1 idx (iI z) ∈ tb ∧ pc + 2 = n)
def DcL (q : MKT) (pc : Nat) (z : Int) (n : Nat) : Prop := (∃ f : Fin 2, decode q.2.2.1 pc = .ok (.lconst f, 1) ∧ Int64.ofNat (f : Nat) = lI z ∧ pc + 1 = n) ∨ (∃ idx : Nat, decode q.2.2.1 pc = .ok (.ldc2_w idx, 3) ∧ Cond.constantLong q.1 idx (lI z) ∈ tb ∧ pc + 3 = n)
def Dinc (q : MKT) (pc i : Nat) (z : Int) (n : Nat) : Prop := decode q.2.2.1 pc = .ok (.iinc i z, 3) ∧ pc + 3 = n ∧ i < q.2.2.2.1
def Db (q : MKT) (pc : Nat) (f : Int → Instr) (n t : Nat) : Prop := ∃ off : Int, decode q.2.2.1 pc = .ok (f off, 3) ∧ pc + 3 = n ∧ (pc : Int) + off = (t : Int)

theorem Go_iload {i : Nat} {a : Int} (d : DlI q pc i n) (h : lg i lv = some (vI a)) (k : Go G q n lv (vI a :: st) S Post) : Go G q pc lv st S Post := by
  intro p e R s m args below meth c cells slots Q H locs ls X hc hs K hl hP hS
  rcases d with ⟨f, d, hi, rfl⟩ | ⟨d, rfl⟩
  · exact lv_iload_n X.1 X.2.1 d hi (hl.at h) (k p e R s m args below meth c cells slots Q H locs ls X hc hs K hl hP hS)
  · exact lv_iload X.1 X.2.1 d (hl.at h) (k p e R s m args below meth c cells slots Q H locs ls X hc hs K hl hP hS)
theorem Go_lload {i : Nat} {a : Int} (d : DlL q pc i n) (h : lg i lv = some (vL a)) (k : Go G q n lv (vL a :: st) S Post) : Go G q pc lv st S Post := by
  intro p e R s m args below meth c cells slots Q H locs ls X hc hs K hl hP hS
  rcases d with ⟨f, d, hi, rfl⟩ | ⟨d, rfl⟩
  · exact lv_lload_n X.1 X.2.1 d hi (hl.at h) (k p e R s m args below meth c cells slots Q H locs ls X hc hs K hl hP hS)
  · exact lv_lload X.1 X.2.1 d (hl.at h) (k p e R s m args below meth c cells slots Q H locs ls X hc hs K hl hP hS)
theorem Go_aload {i : Nat} {v : Value} (d : DlA q pc i n) (h : lg i lv = some v) (hv : ∃ x, v = .ref x) (k : Go G q n lv (v :: st) S Post) : Go G q pc lv st S Post := by
  intro p e R s m args below meth c cells slots Q H locs ls X hc hs K hl hP hS
  obtain ⟨x, rfl⟩ := hv
  rcases d with ⟨f, d, hi, rfl⟩ | ⟨d, rfl⟩
  · exact lv_aload_n X.1 X.2.1 d hi (hl.at h) (k p e R s m args below meth c cells slots Q H locs ls X hc hs K hl hP hS)
  · exact lv_aload X.1 X.2.1 d (hl.at h) (k p e R s m args below meth c cells slots Q H locs ls X hc hs K hl hP hS)
theorem Go_istore {i : Nat} {a : Int} {lv1 : List (Option Value)} (d : DsI q pc i n) (hn : nl i lv = true) (h : ls1 (vI a) i lv = lv1) (k : Go G q n lv1 st S Post) : Go G q pc lv (vI a :: st) S Post := by
  intro p e R s m args below meth c cells slots Q H locs ls X hc hs K hl hP hS
  subst h
  obtain ⟨d, hi2⟩ := d
  rcases d with ⟨f, d, hi, rfl⟩ | ⟨d, rfl⟩
  · exact lv_istore_n X.1 X.2.1 d hi hl hi2 rfl (fun ls hl2 => k p e R s m args below meth c cells slots Q H locs ls X hc hs K (lvH.cut1 hn hl2) hP hS)
  · exact lv_istore X.1 X.2.1 d hl hi2 rfl (fun ls hl2 => k p e R s m args below meth c cells slots Q H locs ls X hc hs K (lvH.cut1 hn hl2) hP hS)
theorem Go_astore {i : Nat} {v : Value} {lv1 : List (Option Value)} (d : DsA q pc i n) (hv : ∃ x, v = .ref x) (hn : nl i lv = true) (h : ls1 v i lv = lv1) (k : Go G q n lv1 st S Post) : Go G q pc lv (v :: st) S Post := by
  intro p e R s m args below meth c cells slots Q H locs ls X hc hs K hl hP hS
  subst h
  obtain ⟨x, rfl⟩ := hv
  obtain ⟨d, hi2⟩ := d
  rcases d with ⟨f, d, hi, rfl⟩ | ⟨d, rfl⟩
  · exact lv_astore_n X.1 X.2.1 d hi hl hi2 rfl (fun ls hl2 => k p e R s m args below meth c cells slots Q H locs ls X hc hs K (lvH.cut1 hn hl2) hP hS)
  · exact lv_astore X.1 X.2.1 d hl hi2 rfl (fun ls hl2 => k p e R s m args below meth c cells slots Q H locs ls X hc hs K (lvH.cut1 hn hl2) hP hS)
def ls2 (v : Value) : Nat → List (Option Value) → List (Option Value)
  | _, [] => []
  | 0, [_] => [some v]
  | 0, _ :: _ :: r => some v :: none :: r
  | i + 1, a :: r => a :: ls2 v i r
theorem lg_ls2 (v : Value) : ∀ (lv : List (Option Value)) (i k : Nat) (x : Value), lg k (ls2 v i lv) = some x → (k = i ∧ x = v) ∨ (k ≠ i ∧ k ≠ i + 1 ∧ lg k lv = some x) := by
  intro lv
  induction lv with
  | nil => intro i k x h; simp [ls2, lg] at h
  | cons a r ih =>
    intro i k x h
    cases i with
    | zero =>
      cases r with
      | nil =>
        cases k with
        | zero => simp [ls2, lg] at h; exact Or.inl ⟨rfl, h.symm⟩
        | succ k => simp [ls2, lg] at h
      | cons b r =>
        match k with
        | 0 => simp [ls2, lg] at h; exact Or.inl ⟨rfl, h.symm⟩
        | 1 => simp [ls2, lg] at h
        | k + 2 => simp [ls2, lg] at h; exact Or.inr ⟨by omega, by omega, by simpa [lg] using h⟩
    | succ i =>
      cases k with
      | zero => simp [ls2, lg] at h; exact Or.inr ⟨by omega, by omega, by simpa [lg] using h⟩
      | succ k =>
        simp only [ls2, lg] at h
        rcases ih i k x h with h | h
        · exact Or.inl ⟨by omega, h.2⟩
        · exact Or.inr ⟨by omega, by omega, h.2.2⟩
theorem lvH.cut2 {ls' : Array Slot} {n i : Nat} {lv : List (Option Value)} {v : Value} (hn : nl i lv = true) (h : lv_has ls' n ((i, v) :: (lvL 0 lv).filter (fun q => !(q.1 == i) && (!(q.1 == i + 1) && !(q.1 + 1 == i && q.2.category == 2))))) : lvH ls' n (ls2 v i lv) := by
  refine ⟨h.1, h.2.1, fun q hq => ?_⟩
  obtain ⟨k, hk, hv⟩ := (lvL_mem _ 0 q).mp hq
  rw [Nat.zero_add] at hk
  apply h.2.2
  rcases lg_ls2 _ _ _ _ _ hv with ⟨h1, h2⟩ | ⟨h1, h2, h3⟩
  · obtain ⟨q1, q2⟩ := q
    dsimp only at hk h2
    rw [hk, h1, h2]
    exact List.mem_cons_self
  · refine List.mem_cons_of_mem _ (List.mem_filter.mpr ⟨(lvL_mem lv 0 q).mpr ⟨k, by omega, h3⟩, ?_⟩)
    simp only [Bool.and_eq_true, Bool.not_eq_true', beq_eq_false_iff_ne, Bool.and_eq_false_iff]
    refine ⟨by omega, by omega, ?_⟩
    by_cases h5 : q.1 + 1 = i
    · right
      have h6 : i = k + 1 := by omega
      rw [h6] at hn
      unfold nl at hn
      dsimp only at hn
      rw [h3] at hn
      dsimp only at hn
      have := (beq_iff_eq).mp hn
      rw [this]
      decide
    · left
      exact h5
theorem Go_lstore {i : Nat} {a : Int} {lv1 : List (Option Value)} (d : DsL q pc i n) (hn : nl i lv = true) (h : ls2 (vL a) i lv = lv1) (k : Go G q n lv1 st S Post) : Go G q pc lv (vL a :: st) S Post := by
  intro p e R s m args below meth c cells slots Q H locs ls X hc hs K hl hP hS
  subst h
  obtain ⟨d, hi2⟩ := d
  rcases d with ⟨f, d, hi, rfl⟩ | ⟨d, rfl⟩
  · exact lv_lstore_n X.1 X.2.1 d hi hl hi2 rfl (fun ls hl2 => k p e R s m args below meth c cells slots Q H locs ls X hc hs K (lvH.cut2 hn hl2) hP hS)
  · exact lv_lstore X.1 X.2.1 d hl hi2 rfl (fun ls hl2 => k p e R s m args below meth c cells slots Q H locs ls X hc hs K (lvH.cut2 hn hl2) hP hS)
theorem Go_iinc {i : Nat} {a z : Int} {lv1 : List (Option Value)} (d : Dinc q pc i z n) (hg : lg i lv = some (vI a)) (hn : nl i lv = true) (h : ls1 (vI (a + z)) i lv = lv1) (k : Go G q n lv1 st S Post) : Go G q pc lv st S Post := by
  intro p e R s m args below meth c cells slots Q H locs ls X hc hs K hl hP hS
  subst h
  obtain ⟨d, rfl, hm⟩ := d
  obtain ⟨j, hj⟩ := List.getElem?_of_mem ((lvL_mem lv 0 (i, vI a)).mpr ⟨i, by simp, hg⟩)
  exact lv_iinc X.1 X.2.1 d hl hj (iI_add a z) hm rfl (fun ls hl2 => k p e R s m args below meth c cells slots Q H locs ls X hc hs K (lvH.cut1 hn hl2) hP hS)
theorem Go_const {z : Int} (d : Dc q pc z n) (k : Go G q n lv (vI z :: st) S Post) : Go G q pc lv st S Post := by
  intro p e R s m args below meth c cells slots Q H locs ls X hc hs K hl hP hS
  rcases d with ⟨d, rfl⟩ | ⟨d, h, rfl⟩ | ⟨d, h, rfl⟩ | ⟨idx, d, h, rfl⟩
  · exact lv_iconst X.1 X.2.1 d rfl (k p e R s m args below meth c cells slots Q H locs ls X hc hs K hl hP hS)
  · exact lv_bipush X.1 X.2.1 d h (k p e R s m args below meth c cells slots Q H locs ls X hc hs K hl hP hS)
  · exact lv_sipush X.1 X.2.1 d h (k p e R s m args below meth c cells slots Q H locs ls X hc hs K hl hP hS)
  · exact lv_ldc X.1 X.2.1 X.2.2.2.1 (X.2.2.2.2.1 _ h) d (k p e R s m args below meth c cells slots Q H locs ls X hc hs K hl hP hS)
theorem Go_lconst {z : Int} (d : DcL q pc z n) (k : Go G q n lv (vL z :: st) S Post) : Go G q pc lv st S Post := by
  intro p e R s m args below meth c cells slots Q H locs ls X hc hs K hl hP hS
  rcases d with ⟨f, d, h, rfl⟩ | ⟨idx, d, h, rfl⟩
  · exact lv_lconst X.1 X.2.1 d h (k p e R s m args below meth c cells slots Q H locs ls X hc hs K hl hP hS)
  · exact lv_ldc2 X.1 X.2.1 X.2.2.2.1 (X.2.2.2.2.1 _ h) d (k p e R s m args below meth c cells slots Q H locs ls X hc hs K hl hP hS)
theorem Go_iadd {a b : Int} (d : Dk q pc .iadd 1 n)  (k : Go G q n lv (vI (a + b) :: st) S Post) : Go G q pc lv (vI b :: vI a :: st) S Post := by
  intro p e R s m args below meth c cells slots Q H locs ls X hc hs K hl hP hS
  obtain ⟨d, rfl⟩ := d
  refine lv_iadd X.1 X.2.1 d ?_
  rw [iI_add]
  exact k p e R s m args below meth c cells slots Q H locs ls X hc hs K hl hP hS
theorem Go_isub {a b : Int} (d : Dk q pc .isub 1 n)  (k : Go G q n lv (vI (a - b) :: st) S Post) : Go G q pc lv (vI b :: vI a :: st) S Post := by
  intro p e R s m args below meth c cells slots Q H locs ls X hc hs K hl hP hS
  obtain ⟨d, rfl⟩ := d
  refine lv_isub X.1 X.2.1 d ?_
  rw [iI_sub]
  exact k p e R s m args below meth c cells slots Q H locs ls X hc hs K hl hP hS
theorem Go_imul {a b : Int} (d : Dk q pc .imul 1 n)  (k : Go G q n lv (vI (a * b) :: st) S Post) : Go G q pc lv (vI b :: vI a :: st) S Post := by
  intro p e R s m args below meth c cells slots Q H locs ls X hc hs K hl hP hS
  obtain ⟨d, rfl⟩ := d
  refine lv_imul X.1 X.2.1 d ?_
  rw [iI_mul]
  exact k p e R s m args below meth c cells slots Q H locs ls X hc hs K hl hP hS
theorem Go_ladd {a b : Int} (d : Dk q pc .ladd 1 n)  (k : Go G q n lv (vL (a + b) :: st) S Post) : Go G q pc lv (vL b :: vL a :: st) S Post := by
  intro p e R s m args below meth c cells slots Q H locs ls X hc hs K hl hP hS
  obtain ⟨d, rfl⟩ := d
  refine lv_ladd X.1 X.2.1 d ?_
  rw [lI_add]
  exact k p e R s m args below meth c cells slots Q H locs ls X hc hs K hl hP hS
theorem Go_lsub {a b : Int} (d : Dk q pc .lsub 1 n)  (k : Go G q n lv (vL (a - b) :: st) S Post) : Go G q pc lv (vL b :: vL a :: st) S Post := by
  intro p e R s m args below meth c cells slots Q H locs ls X hc hs K hl hP hS
  obtain ⟨d, rfl⟩ := d
  refine lv_lsub X.1 X.2.1 d ?_
  rw [lI_sub]
  exact k p e R s m args below meth c cells slots Q H locs ls X hc hs K hl hP hS
theorem Go_lmul {a b : Int} (d : Dk q pc .lmul 1 n)  (k : Go G q n lv (vL (a * b) :: st) S Post) : Go G q pc lv (vL b :: vL a :: st) S Post := by
  intro p e R s m args below meth c cells slots Q H locs ls X hc hs K hl hP hS
  obtain ⟨d, rfl⟩ := d
  refine lv_lmul X.1 X.2.1 d ?_
  rw [lI_mul]
  exact k p e R s m args below meth c cells slots Q H locs ls X hc hs K hl hP hS
theorem Go_idiv {a b : Int} (d : Dk q pc .idiv 1 n) (ha : 0 ≤ a ∧ a < 2147483648) (hb : 0 < b ∧ b < 2147483648) (k : Go G q n lv (vI (a / b) :: st) S Post) : Go G q pc lv (vI b :: vI a :: st) S Post := by
  intro p e R s m args below meth c cells slots Q H locs ls X hc hs K hl hP hS
  obtain ⟨d, rfl⟩ := d
  refine lv_idiv X.1 X.2.1 d (fun h => by have := (iI_eq (a := b) (b := 0) (by omega) (by omega)).mp h; omega) ?_
  rw [iI_div ha hb]
  exact k p e R s m args below meth c cells slots Q H locs ls X hc hs K hl hP hS
theorem Go_irem {a b : Int} (d : Dk q pc .irem 1 n) (ha : 0 ≤ a ∧ a < 2147483648) (hb : 0 < b ∧ b < 2147483648) (k : Go G q n lv (vI (a % b) :: st) S Post) : Go G q pc lv (vI b :: vI a :: st) S Post := by
  intro p e R s m args below meth c cells slots Q H locs ls X hc hs K hl hP hS
  obtain ⟨d, rfl⟩ := d
  refine lv_irem X.1 X.2.1 d (fun h => by have := (iI_eq (a := b) (b := 0) (by omega) (by omega)).mp h; omega) ?_
  rw [iI_rem ha hb]
  exact k p e R s m args below meth c cells slots Q H locs ls X hc hs K hl hP hS
theorem Go_ldiv {a b : Int} (d : Dk q pc .ldiv 1 n) (ha : 0 ≤ a ∧ a < 9223372036854775808) (hb : 0 < b ∧ b < 9223372036854775808) (k : Go G q n lv (vL (a / b) :: st) S Post) : Go G q pc lv (vL b :: vL a :: st) S Post := by
  intro p e R s m args below meth c cells slots Q H locs ls X hc hs K hl hP hS
  obtain ⟨d, rfl⟩ := d
  refine lv_ldiv X.1 X.2.1 d (fun h => by have := (lI_eq (a := b) (b := 0) (by omega) (by omega)).mp h; omega) ?_
  rw [lI_div ha hb]
  exact k p e R s m args below meth c cells slots Q H locs ls X hc hs K hl hP hS
theorem Go_lrem {a b : Int} (d : Dk q pc .lrem 1 n) (ha : 0 ≤ a ∧ a < 9223372036854775808) (hb : 0 < b ∧ b < 9223372036854775808) (k : Go G q n lv (vL (a % b) :: st) S Post) : Go G q pc lv (vL b :: vL a :: st) S Post := by
  intro p e R s m args below meth c cells slots Q H locs ls X hc hs K hl hP hS
  obtain ⟨d, rfl⟩ := d
  refine lv_lrem X.1 X.2.1 d (fun h => by have := (lI_eq (a := b) (b := 0) (by omega) (by omega)).mp h; omega) ?_
  rw [lI_rem ha hb]
  exact k p e R s m args below meth c cells slots Q H locs ls X hc hs K hl hP hS
theorem Go_and31 {a : Int} (d : Dk q pc .iand 1 n)  (k : Go G q n lv (vI (a % 32) :: st) S Post) : Go G q pc lv (vI 31 :: vI a :: st) S Post := by
  intro p e R s m args below meth c cells slots Q H locs ls X hc hs K hl hP hS
  obtain ⟨d, rfl⟩ := d
  refine lv_iand X.1 X.2.1 d ?_
  rw [show iI a &&& iI 31 = iI (a % 32) from iI_and a 5 rfl (by decide)]
  exact k p e R s m args below meth c cells slots Q H locs ls X hc hs K hl hP hS
theorem Go_andM {a : Int} (d : Dk q pc .iand 1 n)  (k : Go G q n lv (vI (a % 2147483648) :: st) S Post) : Go G q pc lv (vI 2147483647 :: vI a :: st) S Post := by
  intro p e R s m args below meth c cells slots Q H locs ls X hc hs K hl hP hS
  obtain ⟨d, rfl⟩ := d
  refine lv_iand X.1 X.2.1 d ?_
  rw [show iI a &&& iI 2147483647 = iI (a % 2147483648) from iI_and a 31 rfl (by decide)]
  exact k p e R s m args below meth c cells slots Q H locs ls X hc hs K hl hP hS
theorem Go_shr16 {a : Int} (d : Dk q pc .ishr 1 n) (ha : 0 ≤ a ∧ a < 2147483648) (k : Go G q n lv (vI (a / 65536) :: st) S Post) : Go G q pc lv (vI 16 :: vI a :: st) S Post := by
  intro p e R s m args below meth c cells slots Q H locs ls X hc hs K hl hP hS
  obtain ⟨d, rfl⟩ := d
  refine lv_ishr X.1 X.2.1 d ?_
  rw [iI_shr16 ha]
  exact k p e R s m args below meth c cells slots Q H locs ls X hc hs K hl hP hS
theorem Go_shl1 {b : Nat} (d : Dk q pc .ishl 1 n) (hb : b < 4) (k : Go G q n lv (vI ((2 ^ b : Nat) : Int) :: st) S Post) : Go G q pc lv (vI (b : Int) :: vI 1 :: st) S Post := by
  intro p e R s m args below meth c cells slots Q H locs ls X hc hs K hl hP hS
  obtain ⟨d, rfl⟩ := d
  refine lv_ishl X.1 X.2.1 d ?_
  rw [iI_shl1 b hb]
  exact k p e R s m args below meth c cells slots Q H locs ls X hc hs K hl hP hS
theorem Go_ior {a b : Int} (d : Dk q pc .ior 1 n) (ha : 0 ≤ a ∧ a < 2147483648) (hb : 0 ≤ b ∧ b < 2147483648) (k : Go G q n lv (vI (orI a b) :: st) S Post) : Go G q pc lv (vI b :: vI a :: st) S Post := by
  intro p e R s m args below meth c cells slots Q H locs ls X hc hs K hl hP hS
  obtain ⟨d, rfl⟩ := d
  refine lv_ior X.1 X.2.1 d ?_
  rw [iI_or ha hb]
  exact k p e R s m args below meth c cells slots Q H locs ls X hc hs K hl hP hS
theorem Go_i2l {a : Int} (d : Dk q pc .i2l 1 n) (ha : -2147483648 ≤ a ∧ a < 2147483648) (k : Go G q n lv (vL a :: st) S Post) : Go G q pc lv (vI a :: st) S Post := by
  intro p e R s m args below meth c cells slots Q H locs ls X hc hs K hl hP hS
  obtain ⟨d, rfl⟩ := d
  refine lv_i2l X.1 X.2.1 d (iI_l ha) ?_
  skip
  exact k p e R s m args below meth c cells slots Q H locs ls X hc hs K hl hP hS
theorem Go_l2i {a : Int} (d : Dk q pc .l2i 1 n)  (k : Go G q n lv (vI a :: st) S Post) : Go G q pc lv (vL a :: st) S Post := by
  intro p e R s m args below meth c cells slots Q H locs ls X hc hs K hl hP hS
  obtain ⟨d, rfl⟩ := d
  refine lv_l2i X.1 X.2.1 d (lI_i a) ?_
  skip
  exact k p e R s m args below meth c cells slots Q H locs ls X hc hs K hl hP hS
theorem Go_i2b {a : Int} (d : Dk q pc .i2b 1 n)  (k : Go G q n lv (vI (w8 a) :: st) S Post) : Go G q pc lv (vI a :: st) S Post := by
  intro p e R s m args below meth c cells slots Q H locs ls X hc hs K hl hP hS
  obtain ⟨d, rfl⟩ := d
  refine lv_i2b X.1 X.2.1 d (iI_b a) ?_
  skip
  exact k p e R s m args below meth c cells slots Q H locs ls X hc hs K hl hP hS
theorem Go_i2s {a : Int} (d : Dk q pc .i2s 1 n)  (k : Go G q n lv (vI (w16 a) :: st) S Post) : Go G q pc lv (vI a :: st) S Post := by
  intro p e R s m args below meth c cells slots Q H locs ls X hc hs K hl hP hS
  obtain ⟨d, rfl⟩ := d
  refine lv_i2s X.1 X.2.1 d (iI_s a) ?_
  skip
  exact k p e R s m args below meth c cells slots Q H locs ls X hc hs K hl hP hS
theorem Go_lcmp {a b : Int} (d : Dk q pc .lcmp 1 n) (ha : -9223372036854775808 ≤ a ∧ a < 9223372036854775808) (hb : -9223372036854775808 ≤ b ∧ b < 9223372036854775808) (k : Go G q n lv (vI (cmpI a b) :: st) S Post) : Go G q pc lv (vL b :: vL a :: st) S Post := by
  intro p e R s m args below meth c cells slots Q H locs ls X hc hs K hl hP hS
  obtain ⟨d, rfl⟩ := d
  refine W.lcmp X.1 X.2.1 d ?_
  rw [lI_cmp ha hb]
  exact k p e R s m args below meth c cells slots Q H locs ls X hc hs K hl hP hS
theorem Go_dup {v : Value} (d : Dk q pc .dup 1 n) (hv : v.category = 1) (k : Go G q n lv (v :: v :: st) S Post) : Go G q pc lv (v :: st) S Post := by
  intro p e R s m args below meth c cells slots Q H locs ls X hc hs K hl hP hS
  obtain ⟨d, rfl⟩ := d
  refine lv_dup X.1 X.2.1 d hv ?_
  skip
  exact k p e R s m args below meth c cells slots Q H locs ls X hc hs K hl hP hS
theorem Go_dup2 {u v : Value} (d : Dk q pc .dup2 1 n) (hu : u.category = 1) (hv : v.category = 1) (k : Go G q n lv (u :: v :: u :: v :: st) S Post) : Go G q pc lv (u :: v :: st) S Post := by
  intro p e R s m args below meth c cells slots Q H locs ls X hc hs K hl hP hS
  obtain ⟨d, rfl⟩ := d
  refine lv_dup2_11 X.1 X.2.1 d hu hv ?_
  skip
  exact k p e R s m args below meth c cells slots Q H locs ls X hc hs K hl hP hS
theorem Go_pop {v : Value} (d : Dk q pc .pop 1 n) (hv : v.category = 1) (k : Go G q n lv st S Post) : Go G q pc lv (v :: st) S Post := by
  intro p e R s m args below meth c cells slots Q H locs ls X hc hs K hl hP hS
  obtain ⟨d, rfl⟩ := d
  exact lv_pop X.1 X.2.1 d hv (k p e R s m args below meth c cells slots Q H locs ls X hc hs K hl hP hS)
theorem Go_goto (d : Db q pc .goto n t) (k : Go G q t lv st S Post) : Go G q pc lv st S Post := by
  intro p e R s m args below meth c cells slots Q H locs ls X hc hs K hl hP hS
  obtain ⟨off, d, -, ht⟩ := d
  exact lv_goto X.1 X.2.1 d ht (k p e R s m args below meth c cells slots Q H locs ls X hc hs K hl hP hS)
theorem Go_icmp_eq {a b : Int} (d : Db q pc (.if_icmp .eq) n t) (ha : -2147483648 ≤ a ∧ a < 2147483648) (hb : -2147483648 ≤ b ∧ b < 2147483648) (kt : a = b → Go G q t lv st S Post) (kf : a ≠ b → Go G q n lv st S Post) : Go G q pc lv (vI b :: vI a :: st) S Post := by
  intro p e R s m args below meth c cells slots Q H locs ls X hc hs K hl hP hS
  obtain ⟨off, d, rfl, ht⟩ := d
  exact lv_icmp_eq X.1 X.2.1 d ht (fun h => kt ((iI_eq ha hb).mp h) p e R s m args below meth c cells slots Q H locs ls X hc hs K hl hP hS) (fun h => kf (fun e => h ((iI_eq ha hb).mpr e)) p e R s m args below meth c cells slots Q H locs ls X hc hs K hl hP hS)
theorem Go_if_eq {a : Int} (d : Db q pc (.ifCond .eq) n t) (ha : -2147483648 ≤ a ∧ a < 2147483648) (kt : a = 0 → Go G q t lv st S Post) (kf : a ≠ 0 → Go G q n lv st S Post) : Go G q pc lv (vI a :: st) S Post := by
  intro p e R s m args below meth c cells slots Q H locs ls X hc hs K hl hP hS
  obtain ⟨off, d, rfl, ht⟩ := d
  have hb : -2147483648 ≤ (0 : Int) ∧ (0 : Int) < 2147483648 := by omega
  exact lv_if_eq X.1 X.2.1 d ht (fun h => kt ((iI_eq ha hb).mp h) p e R s m args below meth c cells slots Q H locs ls X hc hs K hl hP hS) (fun h => kf (fun e => h ((iI_eq ha hb).mpr e)) p e R s m args below meth c cells slots Q H locs ls X hc hs K hl hP hS)
theorem Go_ifc_eq {a b : Int} (d : Db q pc (.ifCond .eq) n t) (kt : a = b → Go G q t lv st S Post) (kf : a ≠ b → Go G q n lv st S Post) : Go G q pc lv (vI (cmpI a b) :: st) S Post := by
  refine Go_if_eq d (by unfold cmpI; split <;> (try split) <;> decide) (fun h => kt ?_) (fun h => kf ?_) <;> (unfold cmpI at h; split at h <;> (try split at h) <;> omega)
theorem Go_icmp_ne {a b : Int} (d : Db q pc (.if_icmp .ne) n t) (ha : -2147483648 ≤ a ∧ a < 2147483648) (hb : -2147483648 ≤ b ∧ b < 2147483648) (kt : a ≠ b → Go G q t lv st S Post) (kf : a = b → Go G q n lv st S Post) : Go G q pc lv (vI b :: vI a :: st) S Post := by
  intro p e R s m args below meth c cells slots Q H locs ls X hc hs K hl hP hS
  obtain ⟨off, d, rfl, ht⟩ := d
  exact lv_icmp_ne X.1 X.2.1 d ht (fun h => kt (fun e => h ((iI_eq ha hb).mpr e)) p e R s m args below meth c cells slots Q H locs ls X hc hs K hl hP hS) (fun h => kf ((iI_eq ha hb).mp h) p e R s m args below meth c cells slots Q H locs ls X hc hs K hl hP hS)
theorem Go_if_ne {a : Int} (d : Db q pc (.ifCond .ne) n t) (ha : -2147483648 ≤ a ∧ a < 2147483648) (kt : a ≠ 0 → Go G q t lv st S Post) (kf : a = 0 → Go G q n lv st S Post) : Go G q pc lv (vI a :: st) S Post := by
  intro p e R s m args below meth c cells slots Q H locs ls X hc hs K hl hP hS
  obtain ⟨off, d, rfl, ht⟩ := d
  have hb : -2147483648 ≤ (0 : Int) ∧ (0 : Int) < 2147483648 := by omega
  exact lv_if_ne X.1 X.2.1 d ht (fun h => kt (fun e => h ((iI_eq ha hb).mpr e)) p e R s m args below meth c cells slots Q H locs ls X hc hs K hl hP hS) (fun h => kf ((iI_eq ha hb).mp h) p e R s m args below meth c cells slots Q H locs ls X hc hs K hl hP hS)
theorem Go_ifc_ne {a b : Int} (d : Db q pc (.ifCond .ne) n t) (kt : a ≠ b → Go G q t lv st S Post) (kf : a = b → Go G q n lv st S Post) : Go G q pc lv (vI (cmpI a b) :: st) S Post := by
  refine Go_if_ne d (by unfold cmpI; split <;> (try split) <;> decide) (fun h => kt ?_) (fun h => kf ?_) <;> (unfold cmpI at h; split at h <;> (try split at h) <;> omega)
theorem Go_icmp_lt {a b : Int} (d : Db q pc (.if_icmp .lt) n t) (ha : -2147483648 ≤ a ∧ a < 2147483648) (hb : -2147483648 ≤ b ∧ b < 2147483648) (kt : a < b → Go G q t lv st S Post) (kf : b ≤ a → Go G q n lv st S Post) : Go G q pc lv (vI b :: vI a :: st) S Post := by
  intro p e R s m args below meth c cells slots Q H locs ls X hc hs K hl hP hS
  obtain ⟨off, d, rfl, ht⟩ := d
  exact lv_icmp_lt X.1 X.2.1 d ht (fun h => kt ((iI_lt ha hb).mp h) p e R s m args below meth c cells slots Q H locs ls X hc hs K hl hP hS) (fun h => kf (Int.not_lt.mp (fun e => h ((iI_lt ha hb).mpr e))) p e R s m args below meth c cells slots Q H locs ls X hc hs K hl hP hS)
theorem Go_if_lt {a : Int} (d : Db q pc (.ifCond .lt) n t) (ha : -2147483648 ≤ a ∧ a < 2147483648) (kt : a < 0 → Go G q t lv st S Post) (kf : 0 ≤ a → Go G q n lv st S Post) : Go G q pc lv (vI a :: st) S Post := by
  intro p e R s m args below meth c cells slots Q H locs ls X hc hs K hl hP hS
  obtain ⟨off, d, rfl, ht⟩ := d
  have hb : -2147483648 ≤ (0 : Int) ∧ (0 : Int) < 2147483648 := by omega
  exact lv_if_lt X.1 X.2.1 d ht (fun h => kt ((iI_lt ha hb).mp h) p e R s m args below meth c cells slots Q H locs ls X hc hs K hl hP hS) (fun h => kf (Int.not_lt.mp (fun e => h ((iI_lt ha hb).mpr e))) p e R s m args below meth c cells slots Q H locs ls X hc hs K hl hP hS)
theorem Go_ifc_lt {a b : Int} (d : Db q pc (.ifCond .lt) n t) (kt : a < b → Go G q t lv st S Post) (kf : b ≤ a → Go G q n lv st S Post) : Go G q pc lv (vI (cmpI a b) :: st) S Post := by
  refine Go_if_lt d (by unfold cmpI; split <;> (try split) <;> decide) (fun h => kt ?_) (fun h => kf ?_) <;> (unfold cmpI at h; split at h <;> (try split at h) <;> omega)
theorem Go_icmp_ge {a b : Int} (d : Db q pc (.if_icmp .ge) n t) (ha : -2147483648 ≤ a ∧ a < 2147483648) (hb : -2147483648 ≤ b ∧ b < 2147483648) (kt : b ≤ a → Go G q t lv st S Post) (kf : a < b → Go G q n lv st S Post) : Go G q pc lv (vI b :: vI a :: st) S Post := by
  intro p e R s m args below meth c cells slots Q H locs ls X hc hs K hl hP hS
  obtain ⟨off, d, rfl, ht⟩ := d
  exact lv_icmp_ge X.1 X.2.1 d ht (fun h => kt ((iI_le hb ha).mp h) p e R s m args below meth c cells slots Q H locs ls X hc hs K hl hP hS) (fun h => kf (Int.not_le.mp (fun e => h ((iI_le hb ha).mpr e))) p e R s m args below meth c cells slots Q H locs ls X hc hs K hl hP hS)
theorem Go_if_ge {a : Int} (d : Db q pc (.ifCond .ge) n t) (ha : -2147483648 ≤ a ∧ a < 2147483648) (kt : 0 ≤ a → Go G q t lv st S Post) (kf : a < 0 → Go G q n lv st S Post) : Go G q pc lv (vI a :: st) S Post := by
  intro p e R s m args below meth c cells slots Q H locs ls X hc hs K hl hP hS
  obtain ⟨off, d, rfl, ht⟩ := d
  have hb : -2147483648 ≤ (0 : Int) ∧ (0 : Int) < 2147483648 := by omega
  exact lv_if_ge X.1 X.2.1 d ht (fun h => kt ((iI_le hb ha).mp h) p e R s m args below meth c cells slots Q H locs ls X hc hs K hl hP hS) (fun h => kf (Int.not_le.mp (fun e => h ((iI_le hb ha).mpr e))) p e R s m args below meth c cells slots Q H locs ls X hc hs K hl hP hS)
theorem Go_ifc_ge {a b : Int} (d : Db q pc (.ifCond .ge) n t) (kt : b ≤ a → Go G q t lv st S Post) (kf : a < b → Go G q n lv st S Post) : Go G q pc lv (vI (cmpI a b) :: st) S Post := by
  refine Go_if_ge d (by unfold cmpI; split <;> (try split) <;> decide) (fun h => kt ?_) (fun h => kf ?_) <;> (unfold cmpI at h; split at h <;> (try split at h) <;> omega)
theorem Go_icmp_gt {a b : Int} (d : Db q pc (.if_icmp .gt) n t) (ha : -2147483648 ≤ a ∧ a < 2147483648) (hb : -2147483648 ≤ b ∧ b < 2147483648) (kt : b < a → Go G q t lv st S Post) (kf : a ≤ b → Go G q n lv st S Post) : Go G q pc lv (vI b :: vI a :: st) S Post := by
  intro p e R s m args below meth c cells slots Q H locs ls X hc hs K hl hP hS
  obtain ⟨off, d, rfl, ht⟩ := d
  exact lv_icmp_gt X.1 X.2.1 d ht (fun h => kt ((iI_lt hb ha).mp h) p e R s m args below meth c cells slots Q H locs ls X hc hs K hl hP hS) (fun h => kf (Int.not_lt.mp (fun e => h ((iI_lt hb ha).mpr e))) p e R s m args below meth c cells slots Q H locs ls X hc hs K hl hP hS)
theorem Go_if_gt {a : Int} (d : Db q pc (.ifCond .gt) n t) (ha : -2147483648 ≤ a ∧ a < 2147483648) (kt : 0 < a → Go G q t lv st S Post) (kf : a ≤ 0 → Go G q n lv st S Post) : Go G q pc lv (vI a :: st) S Post := by
  intro p e R s m args below meth c cells slots Q H locs ls X hc hs K hl hP hS
  obtain ⟨off, d, rfl, ht⟩ := d
  have hb : -2147483648 ≤ (0 : Int) ∧ (0 : Int) < 2147483648 := by omega
  exact lv_if_gt X.1 X.2.1 d ht (fun h => kt ((iI_lt hb ha).mp h) p e R s m args below meth c cells slots Q H locs ls X hc hs K hl hP hS) (fun h => kf (Int.not_lt.mp (fun e => h ((iI_lt hb ha).mpr e))) p e R s m args below meth c cells slots Q H locs ls X hc hs K hl hP hS)
theorem Go_ifc_gt {a b : Int} (d : Db q pc (.ifCond .gt) n t) (kt : b < a → Go G q t lv st S Post) (kf : a ≤ b → Go G q n lv st S Post) : Go G q pc lv (vI (cmpI a b) :: st) S Post := by
  refine Go_if_gt d (by unfold cmpI; split <;> (try split) <;> decide) (fun h => kt ?_) (fun h => kf ?_) <;> (unfold cmpI at h; split at h <;> (try split at h) <;> omega)
theorem Go_icmp_le {a b : Int} (d : Db q pc (.if_icmp .le) n t) (ha : -2147483648 ≤ a ∧ a < 2147483648) (hb : -2147483648 ≤ b ∧ b < 2147483648) (kt : a ≤ b → Go G q t lv st S Post) (kf : b < a → Go G q n lv st S Post) : Go G q pc lv (vI b :: vI a :: st) S Post := by
  intro p e R s m args below meth c cells slots Q H locs ls X hc hs K hl hP hS
  obtain ⟨off, d, rfl, ht⟩ := d
  exact lv_icmp_le X.1 X.2.1 d ht (fun h => kt ((iI_le ha hb).mp h) p e R s m args below meth c cells slots Q H locs ls X hc hs K hl hP hS) (fun h => kf (Int.not_le.mp (fun e => h ((iI_le ha hb).mpr e))) p e R s m args below meth c cells slots Q H locs ls X hc hs K hl hP hS)
theorem Go_if_le {a : Int} (d : Db q pc (.ifCond .le) n t) (ha : -2147483648 ≤ a ∧ a < 2147483648) (kt : a ≤ 0 → Go G q t lv st S Post) (kf : 0 < a → Go G q n lv st S Post) : Go G q pc lv (vI a :: st) S Post := by
  intro p e R s m args below meth c cells slots Q H locs ls X hc hs K hl hP hS
  obtain ⟨off, d, rfl, ht⟩ := d
  have hb : -2147483648 ≤ (0 : Int) ∧ (0 : Int) < 2147483648 := by omega
  exact lv_if_le X.1 X.2.1 d ht (fun h => kt ((iI_le ha hb).mp h) p e R s m args below meth c cells slots Q H locs ls X hc hs K hl hP hS) (fun h => kf (Int.not_le.mp (fun e => h ((iI_le ha hb).mpr e))) p e R s m args below meth c cells slots Q H locs ls X hc hs K hl hP hS)
theorem Go_ifc_le {a b : Int} (d : Db q pc (.ifCond .le) n t) (kt : a ≤ b → Go G q t lv st S Post) (kf : b < a → Go G q n lv st S Post) : Go G q pc lv (vI (cmpI a b) :: st) S Post := by
  refine Go_if_le d (by unfold cmpI; split <;> (try split) <;> decide) (fun h => kt ?_) (fun h => kf ?_) <;> (unfold cmpI at h; split at h <;> (try split at h) <;> omega)
theorem Go_ifeq_b {P : Prop} [Decidable P] (d : Db q pc (.ifCond .eq) n t) (kt : ¬ P → Go G q t lv st S Post) (kf : P → Go G q n lv st S Post) : Go G q pc lv (vI (bI P) :: st) S Post := by
  refine Go_if_eq d (by unfold bI; split <;> decide) (fun h => kt ?_) (fun h => kf ?_) <;> (unfold bI at h; split at h <;> first | assumption | (exfalso; revert h; decide))
theorem Go_ifne_b {P : Prop} [Decidable P] (d : Db q pc (.ifCond .ne) n t) (kt : P → Go G q t lv st S Post) (kf : ¬ P → Go G q n lv st S Post) : Go G q pc lv (vI (bI P) :: st) S Post := by
  refine Go_if_ne d (by unfold bI; split <;> decide) (fun h => kt ?_) (fun h => kf ?_) <;> (unfold bI at h; split at h <;> first | assumption | (exfalso; revert h; decide))
theorem Go_tswOut {x dflt lo hi : Int} {offs : Array Int} {len : Nat} (d : decode q.2.2.1 pc = .ok (.tableswitch dflt lo hi offs, len)) (hx : -2147483648 ≤ x ∧ x < 2147483648) (h : x < lo ∨ hi < x) (ht : (pc : Int) + dflt = (t : Int)) (k : Go G q t lv st S Post) : Go G q pc lv (vI x :: st) S Post := by
  intro p e R s m args below meth c cells slots Q H locs ls X hc hs K hl hP hS
  exact lv_tableOut X.1 X.2.1 d (by rw [iI_toInt hx]; exact h) ht (k p e R s m args below meth c cells slots Q H locs ls X hc hs K hl hP hS)
theorem Go_tswIn {x dflt lo hi off : Int} {offs : Array Int} {len : Nat} (d : decode q.2.2.1 pc = .ok (.tableswitch dflt lo hi offs, len)) (hx : -2147483648 ≤ x ∧ x < 2147483648) (h1 : lo ≤ x) (h2 : x ≤ hi) (ho : offs[(x - lo).toNat]? = some off) (ht : (pc : Int) + off = (t : Int)) (k : Go G q t lv st S Post) : Go G q pc lv (vI x :: st) S Post := by
  intro p e R s m args below meth c cells slots Q H locs ls X hc hs K hl hP hS
  exact lv_tableIn X.1 X.2.1 d (by rw [iI_toInt hx]; omega) (by rw [iI_toInt hx]; omega) (by rw [iI_toInt hx]; exact ho) ht (k p e R s m args below meth c cells slots Q H locs ls X hc hs K hl hP hS)
theorem Go_lsw {x dflt off : Int} {ps : Array (Int × Int)} {len : Nat} (d : decode q.2.2.1 pc = .ok (.lookupswitch dflt ps, len)) (hp : (ps.toList.zip (ps.toList.drop 1)).all (fun (a, next) => a.1 < next.1) = true) (hx : -2147483648 ≤ x ∧ x < 2147483648) (ho : Op.lookupswitch.offset ps.toList dflt x = off) (ht : (pc : Int) + off = (t : Int)) (k : Go G q t lv st S Post) : Go G q pc lv (vI x :: st) S Post := by
  intro p e R s m args below meth c cells slots Q H locs ls X hc hs K hl hP hS
  exact lv_lookup X.1 X.2.1 d hp (by rw [iI_toInt hx]; exact ho) ht (k p e R s m args below meth c cells slots Q H locs ls X hc hs K hl hP hS)
def DrI (q : MKT) (pc : Nat) : Prop := decode q.2.2.1 pc = .ok (.ireturn, 1) ∧ q.2.2.2.2.1 = some .int
def DrZ (q : MKT) (pc : Nat) : Prop := decode q.2.2.1 pc = .ok (.ireturn, 1) ∧ q.2.2.2.2.1 = some .boolean
def DrL (q : MKT) (pc : Nat) : Prop := decode q.2.2.1 pc = .ok (.lreturn, 1) ∧ q.2.2.2.2.1 = some .long
def DrV (q : MKT) (pc : Nat) : Prop := decode q.2.2.1 pc = .ok (.return_, 1) ∧ q.2.2.2.2.1 = none
theorem Go_iret {a : Int} (d : DrI q pc) (h : Post (some (vI a)) S) : Go G q pc lv [vI a] S Post := by
  intro p e R s m args below meth c cells slots Q H locs ls X hc hs K hl hP hS
  exact K _ S H locs pc ls h (Or.inl ⟨_, rfl, d.1, Or.inl d.2⟩) hP hS
theorem Go_zret {a : Int} (d : DrZ q pc) (ha : a = 0 ∨ a = 1) (h : Post (some (vI a)) S) : Go G q pc lv [vI a] S Post := by
  intro p e R s m args below meth c cells slots Q H locs ls X hc hs K hl hP hS
  exact K _ S H locs pc ls h (Or.inl ⟨_, rfl, d.1, Or.inr ⟨d.2, by rcases ha with rfl | rfl <;> first | exact Or.inl rfl | exact Or.inr rfl⟩⟩) hP hS
theorem Go_lret {a : Int} (d : DrL q pc) (h : Post (some (vL a)) S) : Go G q pc lv [vL a] S Post := by
  intro p e R s m args below meth c cells slots Q H locs ls X hc hs K hl hP hS
  exact K _ S H locs pc ls h (Or.inr (Or.inl ⟨_, rfl, d.1, d.2⟩)) hP hS
theorem Go_vret (d : DrV q pc) (h : Post none S) : Go G q pc lv [] S Post := by
  intro p e R s m args below meth c cells slots Q H locs ls X hc hs K hl hP hS
  exact K _ S H locs pc ls h (Or.inr (Or.inr ⟨rfl, d.1, d.2⟩)) hP hS
theorem Go.mono {Post' : Option Value → St → Prop} (h : Go G q pc lv st S Post) (hp : ∀ r S', Post r S' → Post' r S') : Go G q pc lv st S Post' := by
  intro p e R s m args below meth c cells slots Q H locs ls X hc hs K hl hP hS
  exact h p e R s m args below meth c cells slots Q H locs ls X hc hs (fun r S' H' locs' pc' ls' h1 h2 h3 h4 => K r S' H' locs' pc' ls' (hp r S' h1) h2 h3 h4) hl hP hS
def FL (own : String) (idx ci k : Nat) : Prop := ∃ (C : String) (T : u_T) (N : Nat), vwCl[ci]? = some (C, T, N) ∧ k < N ∧ Cond.fieldLink own idx (T k).1 (T k).2.1 (T k).2.2.1 ∈ tb ∧ ∀ w ∈ u_ws C T N, w ∈ tb
def DG (q : MKT) (pc ci k n : Nat) : Prop := ∃ idx : Nat, decode q.2.2.1 pc = .ok (.getfield idx, 3) ∧ FL q.1 idx ci k ∧ pc + 3 = n
def FG (G : GT) (S : St) (c ci k : Nat) (v : Value) : Prop := c < 23 ∧ kd c = ci ∧ (fl G S c)[k]? = some v
theorem Go_get {c0 ci k : Nat} {v : Value} (d : DG q pc ci k n) (hv : FG G S c0 ci k v) (kk : Go G q n lv (v :: st) S Post) : Go G q pc lv (oR G c0 :: st) S Post := by
  intro p e R s m args below meth c cells slots Q H locs ls X hc hs K hl hP hS
  obtain ⟨idx, d, ⟨C, T, N, h1, h2, h3, h4⟩, rfl⟩ := d
  obtain ⟨g1, g2, g3⟩ := hv
  obtain ⟨j, -, hj⟩ := Wd_at (G := G) (S := S) (vs_obj c0 g1)
  subst g2
  exact va_get X.1 X.2.1 X.2.2.2.2.1 h4 X.2.2.2.1 X.2.2.2.2.2.1.1 hP j hj h1 k h2 (X.2.2.2.2.1 _ h3) (fun _ h => h) g3 d (kk p e R s m args below meth c cells slots Q H locs ls X hc hs K hl hP hS)
def FLw (own : String) (idx ci k : Nat) : Prop := ∃ (C : String) (T : u_T) (N : Nat) (ty0 : Nat → FieldType), vwCl[ci]? = some (C, T, N) ∧ k < N ∧ Cond.fieldLink own idx (T k).1 (T k).2.1 (T k).2.2.1 ∈ tb ∧ (∀ w ∈ u_ws C T N, w ∈ tb) ∧ (∀ k, k < N → parseFieldDescriptor (T k).2.2.1 = some (ty0 k)) ∧ (∀ a, a < N → ∀ b, b < N → a ≠ b → (T a).2.1 ≠ (T b).2.1) ∧ (T k).2.2.2 = false
def DP (q : MKT) (pc ci k n : Nat) (ty : FieldType) : Prop := ∃ idx : Nat, decode q.2.2.1 pc = .ok (.putfield idx, 3) ∧ FLw q.1 idx ci k ∧ pc + 3 = n ∧ (∃ (C : String) (T : u_T) (N : Nat), vwCl[ci]? = some (C, T, N) ∧ parseFieldDescriptor (T k).2.2.1 = some ty)
/-- field k of cluster c0 is a number, and what the cell is when it is written -/
def FP (G : GT) (S : St) (c ci k : Nat) (x : Int) : Prop := c < 23 ∧ kd c = ci ∧ ak c k = 0 ∧ k < (fl G S c).length ∧ fl G (st3 S c k 0 x) c = (fl G S c).set k (vI x)
theorem Go_put {c0 ci k : Nat} {x : Int} {ty : FieldType} (d : DP q pc ci k n ty) (hv : FP G S c0 ci k x) (hn : narrow ty (vI x) = vI x) (hfit : fits ty (vI x) = true) (kk : Go G q n lv st (st3 S c0 k 0 x) Post) : Go G q pc lv (vI x :: oR G c0 :: st) S Post := by
  intro p e R s m args below meth c cells slots Q H locs ls X hc hs K hl hP hS
  obtain ⟨idx, d, ⟨C, T, N, ty0, h1, h2, h3, h4, h5, h6, h7⟩, rfl, ⟨C', T', N', z1, z2⟩⟩ := d
  cases Option.some.inj (h1.symm.trans z1)
  obtain ⟨g1, g2, g3, g4, g5⟩ := hv
  obtain ⟨j, hj0, hj⟩ := Wd_at (G := G) (S := S) (vs_obj c0 g1)
  subst g2
  refine va_put X.1 X.2.1 X.2.2.2.2.1 h4 ty0 h5 h6 X.2.2.2.1 X.2.2.2.2.2.1.1 hP (Wd_D X.2.2.2.2.2.1.2.1) hS j hj h1 k h2 (X.2.2.2.2.1 _ h3) (fun _ h => h) h7 z2 hn hfit g4 d (fun H1 locs1 hP1 _ hS1 => ?_)
  have ee : (Wd G S).set j (G.2.1 c0 0, .inr (kd c0, (fl G S c0).set k (vI x))) = Wd G (st3 S c0 k 0 x) := by
    rw [← g5]
    exact Wd_set hj0 (fun p hp hne => mk_fld g3 hp hne)
  rw [show ((c0, 0) : Nat × Nat).1 = c0 from rfl, show ((c0, 0) : Nat × Nat).2 = 0 from rfl, ee] at hP1
  exact kk p e R s m args below meth c cells slots Q H1 locs1 ls X hc hs K hl hP1 hS1
def AI (c j N : Nat) : Prop := c < 23 ∧ j < 16 ∧ ak c j = 1 ∧ ln c j = N ∧ N < 3000
def AL (c j N : Nat) : Prop := c < 23 ∧ j < 16 ∧ ak c j = 2 ∧ ln c j = N ∧ N < 3000
theorem mk_AI {c j N : Nat} (h : AI c j N) : mk G S c (j + 1) = .inl (G.2.2.2.2.1 c j, N, .inl (fun k => iI (S c j k))) := by
  show (Sum.inl (_, ln c j, mkc G S c j) : va_E) = _
  unfold mkc
  rw [if_pos h.2.2.1, h.2.2.2.1]
theorem mk_AL {c j N : Nat} (h : AL c j N) : mk G S c (j + 1) = .inl (G.2.2.2.2.1 c j, N, .inr (.inl (fun k => lI (S c j k)))) := by
  show (Sum.inl (_, ln c j, mkc G S c j) : va_E) = _
  unfold mkc
  rw [if_neg (by rw [h.2.2.1]; decide), if_pos h.2.2.1, h.2.2.2.1]
theorem AI.ty {c j N : Nat} (h : AI c j N) : ∃ k : Nat, (tysG G)[k]? = some (G.2.2.2.2.1 c j, .int) := by
  obtain ⟨k, hk⟩ := tys_at (G := G) h.1 h.2.1 (by rw [h.2.2.1]; decide)
  exact ⟨k, by rw [hk]; unfold aty; rw [if_pos h.2.2.1]⟩
theorem AL.ty {c j N : Nat} (h : AL c j N) : ∃ k : Nat, (tysG G)[k]? = some (G.2.2.2.2.1 c j, .long) := by
  obtain ⟨k, hk⟩ := tys_at (G := G) h.1 h.2.1 (by rw [h.2.2.1]; decide)
  exact ⟨k, by rw [hk]; unfold aty; rw [if_neg (by rw [h.2.2.1]; decide), if_pos h.2.2.1]⟩
theorem AI.at {c j N : Nat} (h : AI c j N) : ∃ k : Nat, vs[k]? = some (c, j + 1) ∧ (Wd G S)[k]? = some (G.2.1 c (j + 1), .inl (G.2.2.2.2.1 c j, N, .inl (fun k => iI (S c j k)))) := by
  obtain ⟨k, h1, h2⟩ := Wd_at (G := G) (S := S) (vs_arr c h.1 j h.2.1 (by rw [h.2.2.1]; decide))
  rw [show ((c, j + 1) : Nat × Nat).1 = c from rfl, show ((c, j + 1) : Nat × Nat).2 = j + 1 from rfl, mk_AI h] at h2
  exact ⟨k, h1, h2⟩
theorem AL.at {c j N : Nat} (h : AL c j N) : ∃ k : Nat, vs[k]? = some (c, j + 1) ∧ (Wd G S)[k]? = some (G.2.1 c (j + 1), .inl (G.2.2.2.2.1 c j, N, .inr (.inl (fun k => lI (S c j k))))) := by
  obtain ⟨k, h1, h2⟩ := Wd_at (G := G) (S := S) (vs_arr c h.1 j h.2.1 (by rw [h.2.2.1]; decide))
  rw [show ((c, j + 1) : Nat × Nat).1 = c from rfl, show ((c, j + 1) : Nat × Nat).2 = j + 1 from rfl, mk_AL h] at h2
  exact ⟨k, h1, h2⟩
theorem AI.set {c j N i k : Nat} {x : Int} (h : AI c j N) (hk : vs[k]? = some (c, j + 1)) : (Wd G S).set k (G.2.1 c (j + 1), .inl (G.2.2.2.2.1 c j, N, .inl (upd (fun k => iI (S c j k)) i (iI x)))) = Wd G (st3 S c j i x) := by
  have e := Wd_set (G := G) (S := S) (S' := st3 S c j i x) hk (fun p hp hne => mk_arr h.1 (by rw [h.2.2.1]; decide) hp hne)
  rw [show ((c, j + 1) : Nat × Nat).1 = c from rfl, show ((c, j + 1) : Nat × Nat).2 = j + 1 from rfl, mk_AI h] at e
  rw [← e]
  congr 6
  funext z
  unfold upd st3
  by_cases hz : z = i
  · rw [if_pos hz, if_pos ⟨rfl, rfl, hz⟩]
  · rw [if_neg hz, if_neg (fun q => hz q.2.2)]
theorem AL.set {c j N i k : Nat} {x : Int} (h : AL c j N) (hk : vs[k]? = some (c, j + 1)) : (Wd G S).set k (G.2.1 c (j + 1), .inl (G.2.2.2.2.1 c j, N, .inr (.inl (vp_updL (fun k => lI (S c j k)) i (lI x))))) = Wd G (st3 S c j i x) := by
  have e := Wd_set (G := G) (S := S) (S' := st3 S c j i x) hk (fun p hp hne => mk_arr h.1 (by rw [h.2.2.1]; decide) hp hne)
  rw [show ((c, j + 1) : Nat × Nat).1 = c from rfl, show ((c, j + 1) : Nat × Nat).2 = j + 1 from rfl, mk_AL h] at e
  rw [← e]
  congr 7
  funext z
  unfold vp_updL st3
  by_cases hz : z = i
  · rw [if_pos hz, if_pos ⟨rfl, rfl, hz⟩]
  · rw [if_neg hz, if_neg (fun q => hz q.2.2)]
theorem Go_iald {c0 j N : Nat} {i : Int} (d : Dk q pc .iaload 1 n) (h : AI c0 j N) (hi : 0 ≤ i ∧ i < (N : Int)) (k : Go G q n lv (vI (S c0 j i.toNat) :: st) S Post) : Go G q pc lv (vI i :: aR G c0 j :: st) S Post := by
  intro p e R s m args below meth c cells slots Q H locs ls X hc hs K hl hP hS
  obtain ⟨d, rfl⟩ := d
  obtain ⟨z, -, hz⟩ := h.at (G := G) (S := S)
  obtain ⟨y, hy⟩ := h.ty (G := G)
  have hN := h.2.2.2.2
  refine va_iald X.1 X.2.1 X.2.2.2.2.2.1.1 hP z y hz hy (iI_in hi (by omega)) d ?_
  rw [iI_cl (by omega)]
  exact k p e R s m args below meth c cells slots Q H locs ls X hc hs K hl hP hS
theorem Go_lald {c0 j N : Nat} {i : Int} (d : Dk q pc .laload 1 n) (h : AL c0 j N) (hi : 0 ≤ i ∧ i < (N : Int)) (k : Go G q n lv (vL (S c0 j i.toNat) :: st) S Post) : Go G q pc lv (vI i :: aR G c0 j :: st) S Post := by
  intro p e R s m args below meth c cells slots Q H locs ls X hc hs K hl hP hS
  obtain ⟨d, rfl⟩ := d
  obtain ⟨z, -, hz⟩ := h.at (G := G) (S := S)
  obtain ⟨y, hy⟩ := h.ty (G := G)
  have hN := h.2.2.2.2
  refine va_lald X.1 X.2.1 X.2.2.2.2.2.1.1 hP z y hz hy (iI_in hi (by omega)) d ?_
  rw [iI_cl (by omega)]
  exact k p e R s m args below meth c cells slots Q H locs ls X hc hs K hl hP hS
theorem Go_iast {c0 j N : Nat} {i x : Int} (d : Dk q pc .iastore 1 n) (h : AI c0 j N) (hi : 0 ≤ i ∧ i < (N : Int)) (k : Go G q n lv st (st3 S c0 j i.toNat x) Post) : Go G q pc lv (vI x :: vI i :: aR G c0 j :: st) S Post := by
  intro p e R s m args below meth c cells slots Q H locs ls X hc hs K hl hP hS
  obtain ⟨d, rfl⟩ := d
  obtain ⟨z, hz0, hz⟩ := h.at (G := G) (S := S)
  obtain ⟨y, hy⟩ := h.ty (G := G)
  have hN := h.2.2.2.2
  refine va_iast X.1 X.2.1 X.2.2.2.2.2.1.1 hP (Wd_D X.2.2.2.2.2.1.2.1) hS z y hz hy (iI_in hi (by omega)) d (fun H1 locs1 hP1 _ hS1 => ?_)
  rw [iI_cl (by omega), h.set hz0] at hP1
  exact k p e R s m args below meth c cells slots Q H1 locs1 ls X hc hs K hl hP1 hS1
theorem Go_last {c0 j N : Nat} {i x : Int} (d : Dk q pc .lastore 1 n) (h : AL c0 j N) (hi : 0 ≤ i ∧ i < (N : Int)) (k : Go G q n lv st (st3 S c0 j i.toNat x) Post) : Go G q pc lv (vL x :: vI i :: aR G c0 j :: st) S Post := by
  intro p e R s m args below meth c cells slots Q H locs ls X hc hs K hl hP hS
  obtain ⟨d, rfl⟩ := d
  obtain ⟨z, hz0, hz⟩ := h.at (G := G) (S := S)
  obtain ⟨y, hy⟩ := h.ty (G := G)
  have hN := h.2.2.2.2
  refine va_last X.1 X.2.1 X.2.2.2.2.2.1.1 hP (Wd_D X.2.2.2.2.2.1.2.1) hS z y hz hy (iI_in hi (by omega)) d (fun H1 locs1 hP1 _ hS1 => ?_)
  rw [iI_cl (by omega), h.set hz0] at hP1
  exact k p e R s m args below meth c cells slots Q H1 locs1 ls X hc hs K hl hP1 hS1
theorem Go_ialdC {c0 j N k0 : Nat} {i : Int} (d : Dk q pc .iaload 1 n) (h : AI c0 j N) (e : i = (k0 : Int)) (hi : k0 < N) (k : Go G q n lv (vI (S c0 j k0) :: st) S Post) : Go G q pc lv (vI i :: aR G c0 j :: st) S Post := by
  subst e
  exact Go_iald d h (by omega) k
theorem Go_laldC {c0 j N k0 : Nat} {i : Int} (d : Dk q pc .laload 1 n) (h : AL c0 j N) (e : i = (k0 : Int)) (hi : k0 < N) (k : Go G q n lv (vL (S c0 j k0) :: st) S Post) : Go G q pc lv (vI i :: aR G c0 j :: st) S Post := by
  subst e
  exact Go_lald d h (by omega) k
theorem Go_iastC {c0 j N k0 : Nat} {i x : Int} (d : Dk q pc .iastore 1 n) (h : AI c0 j N) (e : i = (k0 : Int)) (hi : k0 < N) (k : Go G q n lv st (st3 S c0 j k0 x) Post) : Go G q pc lv (vI x :: vI i :: aR G c0 j :: st) S Post := by
  subst e
  exact Go_iast d h (by omega) k
theorem Go_lastC {c0 j N k0 : Nat} {i x : Int} (d : Dk q pc .lastore 1 n) (h : AL c0 j N) (e : i = (k0 : Int)) (hi : k0 < N) (k : Go G q n lv st (st3 S c0 j k0 x) Post) : Go G q pc lv (vL x :: vI i :: aR G c0 j :: st) S Post := by
  subst e
  exact Go_last d h (by omega) k
theorem Go_alen {c0 j N : Nat} (d : Dk q pc .arraylength 1 n) (h : AL c0 j N) (k : Go G q n lv (vI (N : Int) :: st) S Post) : Go G q pc lv (aR G c0 j :: st) S Post := by
  intro p e R s m args below meth c cells slots Q H locs ls X hc hs K hl hP hS
  obtain ⟨d, rfl⟩ := d
  obtain ⟨z, -, hz⟩ := h.at (G := G) (S := S)
  obtain ⟨y, hy⟩ := h.ty (G := G)
  exact va_alen X.1 X.2.1 X.2.2.2.2.2.1.1 hP z y hz hy (iI_nat N) d (k p e R s m args below meth c cells slots Q H locs ls X hc hs K hl hP hS)
theorem Go_aald {c0 j N : Nat} {i : Int} (d : Dk q pc .aaload 1 n) (h : c0 < 23 ∧ j < 16 ∧ ak c0 j = 3 ∧ ln c0 j = N) (hi : 0 ≤ i ∧ i < (N : Int)) (k : Go G q n lv (oR G (rf c0 i.toNat) :: st) S Post) : Go G q pc lv (vI i :: aR G c0 j :: st) S Post := by
  intro p e R s m args below meth c cells slots Q H locs ls X hc hs K hl hP hS
  obtain ⟨d, rfl⟩ := d
  obtain ⟨h1, h2, h3, h4⟩ := h
  obtain ⟨z, hz0, hz⟩ := Wd_at (G := G) (S := S) (vs_arr c0 h1 j h2 (by rw [h3]; decide))
  obtain ⟨y, hy⟩ := tys_at (G := G) h1 h2 (by rw [h3]; decide)
  have ee : mk G S c0 (j + 1) = .inl (G.2.2.2.2.1 c0 j, N, .inr (.inr (.inr (.inr (fun k => some (G.2.1 (rf c0 k) 0)))))) := by
    show (Sum.inl (_, ln c0 j, mkc G S c0 j) : va_E) = _
    unfold mkc
    rw [if_neg (by rw [h3]; decide), if_neg (by rw [h3]; decide), h4]
  rw [show ((c0, j + 1) : Nat × Nat).1 = c0 from rfl, show ((c0, j + 1) : Nat × Nat).2 = j + 1 from rfl, ee] at hz
  have hN := ln_small c0 h1 j h2
  have hty : ∃ C : String, aty c0 j = .object C := by
    unfold aty
    rw [if_neg (by rw [h3]; decide), if_neg (by rw [h3]; decide)]
    split
    · exact ⟨_, rfl⟩
    · exact ⟨_, rfl⟩
  obtain ⟨C, hC⟩ := hty
  rw [hC] at hy
  refine va_aldq X.1 X.2.1 X.2.2.2.2.2.1.1 hP z y hz hy (iI_in hi (by omega)) d ?_
  rw [iI_cl (by omega)]
  exact k p e R s m args below meth c cells slots Q H locs ls X hc hs K hl hP hS
theorem Go_sld {i : Int} (hq : q.1 = "MixRoundsLaw") (d : Dk q pc .iaload 1 n) (hL : G.2.2.2.2.2.2.2.1 ≤ 3072) (hi : 0 ≤ i ∧ i < (G.2.2.2.2.2.2.2.1 : Int)) (k : Go G q n lv (vI ((G.2.2.2.2.2.2.2.2 i.toNat).toInt) :: st) S Post) : Go G q pc lv (vI i :: .ref G.2.2.2.2.2.2.1 :: st) S Post := by
  intro p e R s m args below meth c cells slots Q H locs ls X hc hs K hl hP hS
  obtain ⟨d, rfl⟩ := d
  obtain ⟨x1, x2, x3⟩ := X.2.2.2.2.2.2.2 hq
  refine va_sld X.1 X.2.1 x1 x2 x3 hS (iI_in hi (by omega)) d ?_
  rw [iI_cl (by omega), ← iI_of (G.2.2.2.2.2.2.2.2 i.toNat)]
  exact k p e R s m args below meth c cells slots Q H locs ls X hc hs K hl hP hS
theorem Go_slen (hq : q.1 = "MixRoundsLaw") (d : Dk q pc .arraylength 1 n) (k : Go G q n lv (vI (G.2.2.2.2.2.2.2.1 : Int) :: st) S Post) : Go G q pc lv (.ref G.2.2.2.2.2.2.1 :: st) S Post := by
  intro p e R s m args below meth c cells slots Q H locs ls X hc hs K hl hP hS
  obtain ⟨d, rfl⟩ := d
  obtain ⟨x1, x2, x3⟩ := X.2.2.2.2.2.2.2 hq
  refine va_slen X.1 X.2.1 x1 x2 x3 hS d ?_
  rw [show Int32.ofNat G.2.2.2.2.2.2.2.1 = iI (G.2.2.2.2.2.2.2.1 : Int) from iI_nat _]
  exact k p e R s m args below meth c cells slots Q H locs ls X hc hs K hl hP hS
end Rules
