theorem va_D.toN {A : Nat → Prop} {ws : va_W} (h : va_D A ws) : (ws.map Prod.fst).Nodup ∧ ∀ x ∈ ws, A x.1 := by
  refine ⟨?_, fun x hx => ?_⟩
  · refine List.pairwise_iff_getElem.mpr (fun i j hi hj hij hne => ?_)
    rw [List.length_map] at hi hj
    rw [List.getElem_map, List.getElem_map] at hne
    have := h.1 i j ws[i] ws[j] (List.getElem?_eq_getElem hi) (List.getElem?_eq_getElem hj) hne
    omega
  · obtain ⟨k, hk⟩ := List.getElem?_of_mem hx
    exact h.2 k x hk
theorem va_D.ofN {A : Nat → Prop} {ws : va_W} (h : (ws.map Prod.fst).Nodup) (h2 : ∀ x ∈ ws, A x.1) : va_D A ws := by
  have hp := List.pairwise_iff_getElem.mp h
  have key : ∀ (i j : Nat) (x y : Nat × va_E), ws[i]? = some x → ws[j]? = some y → i < j → x.1 ≠ y.1 := by
    intro i j x y hx hy hij
    obtain ⟨hi, e1⟩ := List.getElem?_eq_some_iff.mp hx
    obtain ⟨hj, e2⟩ := List.getElem?_eq_some_iff.mp hy
    have := hp i j (by rw [List.length_map]; exact hi) (by rw [List.length_map]; exact hj) hij
    rw [List.getElem_map, List.getElem_map, e1, e2] at this
    exact this
  refine ⟨fun i j x y hx hy hxy => ?_, fun k x hx => h2 x (List.mem_of_getElem? hx)⟩
  rcases Nat.lt_trichotomy i j with hij | hij | hij
  · exact absurd hxy (key i j x y hx hy hij)
  · exact hij
  · exact absurd hxy.symm (key j i y x hy hx hij)
theorem va_D.perm {A : Nat → Prop} {ws ws' : va_W} (h : va_D A ws) (hp : ws.Perm ws') : va_D A ws' := by
  obtain ⟨h1, h2⟩ := h.toN
  exact va_D.ofN ((hp.map Prod.fst).nodup_iff.mp h1) (fun x hx => h2 x (hp.mem_iff.mpr hx))
theorem va_P.perm {D : va_G} {cl : List vw_C} {ws ws' : va_W} {H : Heap} (h : va_P D cl ws H) (hp : ws.Perm ws') : va_P D cl ws' H := by
  intro k x hx
  obtain ⟨i, hi⟩ := List.getElem?_of_mem (hp.mem_iff.mpr (List.mem_of_getElem? hx))
  exact h i x hi
theorem i6 : ∀ b : Nat, b < 7 → Int32.ofNat b + Int32.ofInt 1 = Int32.ofNat (b + 1) := by decide
theorem i6c : ∀ b : Nat, b < 7 → (Int32.ofNat b).toNatClampNeg = b := by decide
theorem i6l : ∀ b : Nat, b < 6 → ¬ (6 : Int32) ≤ Int32.ofNat b := by decide
theorem i4l : ∀ b : Nat, b < 4 → ¬ (4 : Int32) ≤ Int32.ofNat b := by decide
theorem i6v (b : Nat) (h : b < 6) : vp_in (Int32.ofNat b) 6 := by
  have : ∀ b : Nat, b < 6 → ¬ ((Int32.ofNat b) < 0 ∨ 6 ≤ (Int32.ofNat b).toNatClampNeg) := by decide
  exact this b h
theorem i4v (b : Nat) (h : b < 4) : vp_in (Int32.ofNat b) 4 := by
  have : ∀ b : Nat, b < 4 → ¬ ((Int32.ofNat b) < 0 ∨ 4 ≤ (Int32.ofNat b).toNatClampNeg) := by decide
  exact this b h
/-- b made ones, one behind the other -/
def fW (f : (Nat → Nat) → (Nat → ClassId) → va_W) (R : Nat → Nat → Nat) (K : Nat → Nat → ClassId) : Nat → va_W
  | 0 => []
  | b + 1 => fW f R K b ++ f (R b) (K b)
def fT (f : (Nat → ClassId) → List (ClassId × FieldType)) (K : Nat → Nat → ClassId) : Nat → List (ClassId × FieldType)
  | 0 => []
  | b + 1 => fT f K b ++ f (K b)
theorem fW_ext {f : (Nat → Nat) → (Nat → ClassId) → va_W} {R R' : Nat → Nat → Nat} {K K' : Nat → Nat → ClassId} : ∀ b : Nat, (∀ i, i < b → R' i = R i ∧ K' i = K i) → fW f R' K' b = fW f R K b := by
  intro b
  induction b with
  | zero => intro _; rfl
  | succ b ih => intro h; simp only [fW]; rw [ih (fun i hi => h i (by omega)), (h b (by omega)).1, (h b (by omega)).2]
theorem fT_ext {f : (Nat → ClassId) → List (ClassId × FieldType)} {K K' : Nat → Nat → ClassId} : ∀ b : Nat, (∀ i, i < b → K' i = K i) → fT f K' b = fT f K b := by
  intro b
  induction b with
  | zero => intro _; rfl
  | succ b ih => intro h; simp only [fT]; rw [ih (fun i hi => h i (by omega)), h b (by omega)]
def fR (R : Nat → Nat → Nat) (b : Nat) : Nat → Option Nat := fun i => if i < b then some (R i 0) else none
theorem fR_S (R : Nat → Nat → Nat) (r : Nat → Nat) (b : Nat) : va_up (fR R b) b (some (r 0)) = fR (fun i => if i = b then r else R i) (b + 1) := by
  funext i
  unfold va_up fR
  by_cases h : i = b
  · subst h; simp
  · simp [h]
    by_cases h2 : i < b
    · rw [if_pos h2, if_pos (by omega)]
    · rw [if_neg h2, if_neg (by omega)]
def wPb (h0 q : Nat) (cq : ClassId) (R : Nat → Nat → Nat) (K : Nat → Nat → ClassId) (b : Nat) : va_W := (h0, .inr (1, [.ref q, .int 0, .int 0])) :: (q, .inl (cq, 6, .inr (.inr (.inr (.inr (fR R b)))))) :: fW wB R K b
def tPb (cq : ClassId) (K : Nat → Nat → ClassId) (b : Nat) : List (ClassId × FieldType) := (cq, .object "MixRounds$Book") :: fT tB K b
def MdP : Nat → va_W → List (ClassId × FieldType) → Prop := fun h0 w ty => ∃ (q : Nat) (cq : ClassId) (R : Nat → Nat → Nat) (K : Nat → Nat → ClassId), w = wPb h0 q cq R K 6 ∧ ty = tPb cq K 6
def fsP : List Value := [.null, .int 0, .int 0]
def fsX : List Value := [.null, .null, .null, .null, .int 0, .null, .null]
theorem ci_P_init_B_init_9 : CI k_P_init k_B_init 0 13 9 24 fsB := ⟨TX0, tyX0, rfl, iw_B, tyX0_ok, by decide +kernel, (tb_at 133 (by decide +kernel) (by decide +kernel)), (tb_at 62 (by decide +kernel) (by decide +kernel)), Or.inr (by decide +kernel), m_B_init, rfl, (tb_at 64 (by decide +kernel) (by decide +kernel)), by decide +kernel, rfl⟩
theorem e_P_init_0 : decode k_P_init.2.2.1 0 = .ok (.aload_n 0, 1) := by decide +kernel
theorem e_P_init_1 : decode k_P_init.2.2.1 1 = .ok (.invokespecial 3, 3) := by decide +kernel
theorem e_P_init_4 : decode k_P_init.2.2.1 4 = .ok (.aload_n 0, 1) := by decide +kernel
theorem e_P_init_5 : decode k_P_init.2.2.1 5 = .ok (.bipush 6, 2) := by decide +kernel
theorem e_P_init_7 : decode k_P_init.2.2.1 7 = .ok (.anewarray 9, 3) := by decide +kernel
theorem e_P_init_10 : decode k_P_init.2.2.1 10 = .ok (.putfield 11, 3) := by decide +kernel
theorem e_P_init_13 : decode k_P_init.2.2.1 13 = .ok (.aload_n 0, 1) := by decide +kernel
theorem e_P_init_14 : decode k_P_init.2.2.1 14 = .ok (.iconst 0, 1) := by decide +kernel
theorem e_P_init_15 : decode k_P_init.2.2.1 15 = .ok (.putfield 17, 3) := by decide +kernel
theorem e_P_init_18 : decode k_P_init.2.2.1 18 = .ok (.aload_n 0, 1) := by decide +kernel
theorem e_P_init_19 : decode k_P_init.2.2.1 19 = .ok (.iconst 0, 1) := by decide +kernel
theorem e_P_init_20 : decode k_P_init.2.2.1 20 = .ok (.putfield 21, 3) := by decide +kernel
theorem e_P_init_23 : decode k_P_init.2.2.1 23 = .ok (.iconst 0, 1) := by decide +kernel
theorem e_P_init_24 : decode k_P_init.2.2.1 24 = .ok (.istore_n 1, 1) := by decide +kernel
theorem e_P_init_25 : decode k_P_init.2.2.1 25 = .ok (.iload_n 1, 1) := by decide +kernel
theorem e_P_init_26 : decode k_P_init.2.2.1 26 = .ok (.bipush 6, 2) := by decide +kernel
theorem e_P_init_28 : decode k_P_init.2.2.1 28 = .ok (.if_icmp .ge 22, 3) := by decide +kernel
theorem e_P_init_31 : decode k_P_init.2.2.1 31 = .ok (.aload_n 0, 1) := by decide +kernel
theorem e_P_init_32 : decode k_P_init.2.2.1 32 = .ok (.getfield 11, 3) := by decide +kernel
theorem e_P_init_35 : decode k_P_init.2.2.1 35 = .ok (.iload_n 1, 1) := by decide +kernel
theorem e_P_init_36 : decode k_P_init.2.2.1 36 = .ok (.new 9, 3) := by decide +kernel
theorem e_P_init_39 : decode k_P_init.2.2.1 39 = .ok (.dup, 1) := by decide +kernel
theorem e_P_init_40 : decode k_P_init.2.2.1 40 = .ok (.invokespecial 24, 3) := by decide +kernel
theorem e_P_init_43 : decode k_P_init.2.2.1 43 = .ok (.aastore, 1) := by decide +kernel
theorem e_P_init_44 : decode k_P_init.2.2.1 44 = .ok (.iinc 1 1, 3) := by decide +kernel
theorem e_P_init_47 : decode k_P_init.2.2.1 47 = .ok (.goto (-22), 3) := by decide +kernel
theorem e_P_init_50 : decode k_P_init.2.2.1 50 = .ok (.return_, 1) := by decide +kernel
set_option maxHeartbeats 4000000 in
set_option maxRecDepth 100000 in
theorem i_P_init (l : Launch) (D : va_G) : Ini l D k_P_init 1 fsP 61 4080 MdP := by
  intro b0 t0 h0 sz hb0 hbs
  refine Met.ofW (cc := k_P_init.2.2.1) (maxL := 2) (ret := none) (by decide +kernel) rfl ?_
  intro p e s m args below meth c s₁ B hml hv
  obtain ⟨rfl, hsz, hP, hK, hIK⟩ := hv
  have hx := B.exec
  have hb := B.bytes
  have hr := B.returns
  have hts : ∀ w ∈ tb, w.before [Value.ref h0].toArray s = true := fun w hw => atoms_spec (ws := wsG k_P_init) B.pre w (List.mem_cons_of_mem _ hw)
  have hown : s.vm.findClass "MixRounds$Past" = some m.cls := findClass_of_methodNamed B.named
  have hlocks := B.notSynchronized
  have hin : meth.name = "<init>" := (name_of_methodNamed B.named B.method).1
  subst hsz
  have hA : ∀ q : Nat, s.heap.size ≤ q → IA h0 s.heap.size q := fun q h => Or.inr h
  have hS : va_S (IA h0 s.heap.size) s.heap s.heap [] := va_S.rf
  have X : Ctx k_P_init p (rmI 2 61 4080) s m [Value.ref h0].toArray c b0 t0 (IA h0 s.heap.size) := ⟨hx, hb, hml, hown, hts, hIK, hA, fun a h => by rcases h with rfl | h <;> omega⟩
  have hl := lv_entry ([.ref h0]) (n := 2) (Nat.le_of_ble_eq_true rfl)
  rw [lg_entry_eq]
  generalize (lg_sl ([.ref h0]) ++ List.replicate (2 - (lg_sl ([.ref h0])).length) Slot.unset).toArray = ls at hl ⊢
  have hl : lv_has ls 2 [(0, .ref h0)] := hl
  have hD : va_D (IA h0 s.heap.size) [(h0, .inr (1, fsP))] := va_D1 (Or.inl rfl)
  refine lv_aload_n hx hb e_P_init_0 rfl (lv_at hl 0 rfl) ?_
  refine W.objInit hx hb hown (hts (.methodLink "MixRounds$Past" 3 Lib.objectInit) (tb_at 132 (by decide +kernel) (by decide +kernel))) (hts (.instanceMethod Lib.objectInit) (tb_at 59 (by decide +kernel) (by decide +kernel))) (hts (.code Lib.objectInit ⟨#[0xb1]⟩ 1 none) (tb_at 60 (by decide +kernel) (by decide +kernel))) rfl (by rw [hml]; exact hl.1) rfl e_P_init_1 (Nat.le_of_ble_eq_true rfl) (Nat.le_of_ble_eq_true rfl) ?_
  refine W.eq (g2 := F0 m 4 ls []) rfl ?_
  refine lv_aload_n hx hb e_P_init_4 rfl (lv_at hl 0 rfl) ?_
  refine lv_bipush (v := 6) hx hb e_P_init_5 (by decide) ?_
  refine va_newq (n := 6) (N' := 6) hx hb hown (hts (.classLink "MixRounds$Past" 9 "MixRounds$Book") (tb_at 133 (by decide +kernel) (by decide +kernel))) hIK.2.2.2.1 hK hP hD hS hA (by decide) (by decide) (Nat.le_of_ble_eq_true rfl) (Nat.le_of_ble_eq_true rfl) (Nat.le_of_ble_eq_true rfl) e_P_init_7 (fun q cq H hK hP hD hS => ?_)
  refine va_putF (D := D) (ci := 1) (v := .ref q) (ty := .array (.object "MixRounds$Book")) (C := RX1) (T := TX1) (N := 3) hx hb hts iw_P tyX1 tyX1_ok nmX1 hown hK hP hD hS 0 rfl rfl 0 (by decide) (hts (.fieldLink "MixRounds$Past" 11 "MixRounds$Past" "books" "[LMixRounds$Book;") (tb_at 136 (by decide +kernel) (by decide +kernel))) (fun _ h9 => h9) rfl hin rfl (by decide +kernel) rfl rfl (Nat.le_of_ble_eq_true rfl) e_P_init_10 (fun H locs hP hD hS => ?_)
  have hP : va_P D vwCl ((h0, .inr (1, [.ref q, .int 0, .int 0])) :: [(q, .inl (cq, 6, .inr (.inr (.inr (.inr (fun _ => none))))))]) H := hP
  have hD : va_D (IA h0 s.heap.size) ((h0, .inr (1, [.ref q, .int 0, .int 0])) :: [(q, .inl (cq, 6, .inr (.inr (.inr (.inr (fun _ => none))))))]) := hD
  refine lv_aload_n hx hb e_P_init_13 rfl (lv_at hl 0 rfl) ?_
  refine lv_iconst (v := 0) hx hb e_P_init_14 (by decide) ?_
  refine va_put (D := D) (ci := 1) (v := .int 0) (ty := .int) (C := RX1) (T := TX1) (N := 3) hx hb hts iw_P tyX1 tyX1_ok nmX1 hown hK hP hD hS 0 rfl rfl 1 (by decide) (hts (.fieldLink "MixRounds$Past" 17 "MixRounds$Past" "oldest" "I") (tb_at 137 (by decide +kernel) (by decide +kernel))) (fun _ h9 => h9) rfl (by decide +kernel) rfl rfl (Nat.le_of_ble_eq_true rfl) e_P_init_15 (fun H locs hP hD hS => ?_)
  have hP : va_P D vwCl ((h0, .inr (1, [.ref q, .int 0, .int 0])) :: [(q, .inl (cq, 6, .inr (.inr (.inr (.inr (fun _ => none))))))]) H := hP
  have hD : va_D (IA h0 s.heap.size) ((h0, .inr (1, [.ref q, .int 0, .int 0])) :: [(q, .inl (cq, 6, .inr (.inr (.inr (.inr (fun _ => none))))))]) := hD
  refine lv_aload_n hx hb e_P_init_18 rfl (lv_at hl 0 rfl) ?_
  refine lv_iconst (v := 0) hx hb e_P_init_19 (by decide) ?_
  refine va_put (D := D) (ci := 1) (v := .int 0) (ty := .int) (C := RX1) (T := TX1) (N := 3) hx hb hts iw_P tyX1 tyX1_ok nmX1 hown hK hP hD hS 0 rfl rfl 2 (by decide) (hts (.fieldLink "MixRounds$Past" 21 "MixRounds$Past" "known" "I") (tb_at 138 (by decide +kernel) (by decide +kernel))) (fun _ h9 => h9) rfl (by decide +kernel) rfl rfl (Nat.le_of_ble_eq_true rfl) e_P_init_20 (fun H locs hP hD hS => ?_)
  have hP : va_P D vwCl ((h0, .inr (1, [.ref q, .int 0, .int 0])) :: [(q, .inl (cq, 6, .inr (.inr (.inr (.inr (fun _ => none))))))]) H := hP
  have hD : va_D (IA h0 s.heap.size) ((h0, .inr (1, [.ref q, .int 0, .int 0])) :: [(q, .inl (cq, 6, .inr (.inr (.inr (.inr (fun _ => none))))))]) := hD
  refine lv_iconst (v := 0) hx hb e_P_init_23 (by decide) ?_
  refine lv_istore_n (lv' := [(1, .int 0), (0, .ref h0)]) hx hb e_P_init_24 rfl hl (by decide) rfl (fun ls hl => ?_)
  have loop : ∀ (n b : Nat), b + n = 6 → ∀ (Rr : Nat → Nat → Nat) (Kf : Nat → Nat → ClassId) (H : Heap) (locs : List Loc) (ls : Array Slot), lv_has ls 2 [(1, .int (Int32.ofNat b)), (0, .ref h0)] → va_K D vwCl (tPb cq Kf b) s → va_P D vwCl (wPb h0 q cq Rr Kf b) H → va_D (IA h0 s.heap.size) (wPb h0 q cq Rr Kf b) → va_S (IA h0 s.heap.size) s.heap H locs →
      W p l e (rmI 2 61 4080) s m [Value.ref h0].toArray below meth c H locs (1 + 10 * b) (6 + 679 * b) (MQ below (QI0 D MdP h0 s.heap.size) [Value.ref h0].toArray s 61 4080 (IA h0 s.heap.size)) (F0 m 25 ls []) := by
    intro n
    induction n with
    | zero =>
      intro b hb6 Rr Kf H locs ls hl hK hP hD hS
      obtain rfl : b = 6 := by omega
      refine lv_iload_n hx hb e_P_init_25 rfl (lv_at hl 0 rfl) ?_
      refine lv_bipush (v := 6) hx hb e_P_init_26 (by decide) ?_
      refine lv_icmp_ge (tgt := 50) hx hb e_P_init_28 (by decide) (fun _ => ?_) (fun h => absurd (by decide) h)
      exact W.vret hx hb hr (fun t ht hW => ⟨⟨(), rfl, trivial, _, _, ⟨q, cq, Rr, Kf, rfl, rfl⟩, by rw [ht]; exact hP, va_K.moved hW.alike hK, hD⟩, hS.F ht⟩) hS.2.2 e_P_init_50
    | succ n ih =>
      intro b hb6 Rr Kf H locs ls hl hK hP hD hS
      refine lv_iload_n hx hb e_P_init_25 rfl (lv_at hl 0 rfl) ?_
      refine lv_bipush (v := 6) hx hb e_P_init_26 (by decide) ?_
      refine lv_icmp_ge (tgt := 50) hx hb e_P_init_28 (by decide) (fun h => absurd h (i6l b (by omega))) (fun _ => ?_)
      refine lv_aload_n hx hb e_P_init_31 rfl (lv_at hl 1 rfl) ?_
      refine va_get (D := D) (ci := 1) (v := .ref q) (C := RX1) (T := TX1) (N := 3) hx hb hts iw_P hown hK hP 0 rfl rfl 0 (by decide) (hts (.fieldLink "MixRounds$Past" 11 "MixRounds$Past" "books" "[LMixRounds$Book;") (tb_at 136 (by decide +kernel) (by decide +kernel))) (fun _ h9 => h9) rfl e_P_init_32 ?_
      refine lv_iload_n hx hb e_P_init_35 rfl (lv_at hl 0 rfl) ?_
      refine mkI X ci_P_init_B_init_9 (i_B_init l D) e_P_init_36 e_P_init_39 e_P_init_40 ⟨by decide, by decide⟩ (by show 1 + 10 * b + 1 + 9 ≤ 61; omega) (by show 6 + 679 * b + 13 + 666 ≤ 4080; omega) (Nat.le_of_ble_eq_true rfl) hl.1 hK hP hD hS (fun h1 w ty H locs hMd hP hD hK hS => ?_)
      obtain ⟨r, k, rfl, rfl, rfl⟩ := hMd
      refine va_astq (r := (RX0, TX0, 13)) (n := 6) (f := fR Rr b) (v := r 0) hx hb hK hP hD hS 1 0 ((fW wB Rr Kf b).length + 2) 0 rfl rfl (by
        show (fW wB Rr Kf b ++ wB r k)[(fW wB Rr Kf b).length]? = _
        rw [List.getElem?_append_right (Nat.le_refl _), Nat.sub_self]
        rfl) rfl (i6v b (by omega)) e_P_init_43 (fun H locs hP hD hS => ?_)
      rw [i6c b (by omega), fR_S] at hP hD
      have eW : (h0, (.inr (1, [.ref q, .int 0, .int 0]) : va_E)) :: (q, .inl (cq, 6, .inr (.inr (.inr (.inr (fR (fun i => if i = b then r else Rr i) (b + 1))))))) :: (fW wB Rr Kf b ++ wB r k) = wPb h0 q cq (fun i => if i = b then r else Rr i) (fun i => if i = b then k else Kf i) (b + 1) := by
        unfold wPb
        have e1 : fW wB (fun i => if i = b then r else Rr i) (fun i => if i = b then k else Kf i) (b + 1) = fW wB Rr Kf b ++ wB r k := by
          simp only [fW]
          rw [fW_ext b (fun i hi => ⟨if_neg (by omega), if_neg (by omega)⟩), if_pos trivial, if_pos trivial]
        rw [e1]
      have eT : tPb cq Kf b ++ tB k = tPb cq (fun i => if i = b then k else Kf i) (b + 1) := by
        unfold tPb
        have e1 : fT tB (fun i => if i = b then k else Kf i) (b + 1) = fT tB Kf b ++ tB k := by
          simp only [fT]
          rw [fT_ext b (fun i hi => if_neg (by omega)), if_pos trivial]
        rw [e1]; rfl
      have hP : va_P D vwCl _ H := hP
      have hP2 : va_P D vwCl (wPb h0 q cq (fun i => if i = b then r else Rr i) (fun i => if i = b then k else Kf i) (b + 1)) H := by rw [← eW]; exact hP
      have hD2 : va_D (IA h0 s.heap.size) (wPb h0 q cq (fun i => if i = b then r else Rr i) (fun i => if i = b then k else Kf i) (b + 1)) := by rw [← eW]; exact hD
      rw [eT] at hK
      refine lv_iinc (v := Int32.ofNat (b + 1)) (lv' := [(1, .int (Int32.ofNat (b + 1))), (0, .ref h0)]) hx hb e_P_init_44 hl (k := 0) rfl (i6 b (by omega)) (by decide) rfl (fun ls hl => ?_)
      refine lv_goto (tgt := 25) hx hb e_P_init_47 (by decide) ?_
      exact W.widen (by omega) (by omega) (ih (b + 1) (by omega) _ _ _ _ ls hl hK hP2 hD2 hS)
  exact W.widen (by decide) (by decide) (loop 6 0 (by omega) (fun _ _ => 0) (fun _ _ => cq) _ _ ls hl hK hP hD hS)
theorem ci_X_init_B_init_9 : CI k_X_init k_B_init 0 13 9 11 fsB := ⟨TX0, tyX0, rfl, iw_B, tyX0_ok, by decide +kernel, (tb_at 61 (by decide +kernel) (by decide +kernel)), (tb_at 62 (by decide +kernel) (by decide +kernel)), Or.inr (by decide +kernel), m_B_init, rfl, (tb_at 64 (by decide +kernel) (by decide +kernel)), by decide +kernel, rfl⟩
theorem ci_X_init_P_init_16 : CI k_X_init k_P_init 1 3 16 18 fsP := ⟨TX1, tyX1, rfl, iw_P, tyX1_ok, by decide +kernel, (tb_at 127 (by decide +kernel) (by decide +kernel)), (tb_at 128 (by decide +kernel) (by decide +kernel)), Or.inl (tb_at 129 (by decide +kernel) (by decide +kernel)), m_P_init, rfl, (tb_at 130 (by decide +kernel) (by decide +kernel)), by decide +kernel, rfl⟩
theorem ci_X_init_T_init_33 : CI k_X_init k_T_init 3 5 33 35 fsT := ⟨TX3, tyX3, rfl, iw_T, tyX3_ok, by decide +kernel, (tb_at 147 (by decide +kernel) (by decide +kernel)), (tb_at 148 (by decide +kernel) (by decide +kernel)), Or.inr (by decide +kernel), m_T_init, rfl, (tb_at 150 (by decide +kernel) (by decide +kernel)), by decide +kernel, rfl⟩
theorem ci_X_init_H_init_40 : CI k_X_init k_H_init 2 3 40 46 fsH := ⟨TX2, tyX2, rfl, iw_H, tyX2_ok, by decide +kernel, (tb_at 173 (by decide +kernel) (by decide +kernel)), (tb_at 175 (by decide +kernel) (by decide +kernel)), Or.inr (by decide +kernel), m_H_init, rfl, (tb_at 177 (by decide +kernel) (by decide +kernel)), by decide +kernel, rfl⟩
def obX (a1 a2 a3 a4 a5 q : Nat) : va_E := .inr (4, [.ref a1, .ref a2, .ref a3, .ref a4, .int 0, .ref a5, .ref q])
def wXb (h0 a1 a2 a3 a4 a5 q : Nat) (cq : ClassId) (rest : va_W) (R : Nat → Nat → Nat) (K : Nat → Nat → ClassId) (b : Nat) : va_W := (h0, obX a1 a2 a3 a4 a5 q) :: (q, .inl (cq, 4, .inr (.inr (.inr (.inr (fR R b)))))) :: (rest ++ fW wH R K b)
def tXb (tr : List (ClassId × FieldType)) (cq : ClassId) (K : Nat → Nat → ClassId) (b : Nat) : List (ClassId × FieldType) := (tr ++ [(cq, .object "MixRounds$Sheet")]) ++ fT tH K b
def MdX : Nat → va_W → List (ClassId × FieldType) → Prop := fun h0 w ty => ∃ (a1 a2 a3 a4 a5 q : Nat) (cq : ClassId) (w1 w2 w3 w4 w5 : va_W) (t1 t2 t3 t4 t5 : List (ClassId × FieldType)) (R : Nat → Nat → Nat) (K : Nat → Nat → ClassId), MdB a1 w1 t1 ∧ MdP a2 w2 t2 ∧ MdB a3 w3 t3 ∧ MdP a4 w4 t4 ∧ MdT a5 w5 t5 ∧ w = wXb h0 a1 a2 a3 a4 a5 q cq ((((w1 ++ w2) ++ w3) ++ w4) ++ w5) R K 4 ∧ ty = tXb (((((t1 ++ t2) ++ t3) ++ t4) ++ t5)) cq K 4
theorem e_X_init_0 : decode k_X_init.2.2.1 0 = .ok (.aload_n 0, 1) := by decide +kernel
theorem e_X_init_1 : decode k_X_init.2.2.1 1 = .ok (.invokespecial 3, 3) := by decide +kernel
theorem e_X_init_4 : decode k_X_init.2.2.1 4 = .ok (.aload_n 0, 1) := by decide +kernel
theorem e_X_init_5 : decode k_X_init.2.2.1 5 = .ok (.new 9, 3) := by decide +kernel
theorem e_X_init_8 : decode k_X_init.2.2.1 8 = .ok (.dup, 1) := by decide +kernel
theorem e_X_init_9 : decode k_X_init.2.2.1 9 = .ok (.invokespecial 11, 3) := by decide +kernel
theorem e_X_init_12 : decode k_X_init.2.2.1 12 = .ok (.putfield 12, 3) := by decide +kernel
theorem e_X_init_15 : decode k_X_init.2.2.1 15 = .ok (.aload_n 0, 1) := by decide +kernel
theorem e_X_init_16 : decode k_X_init.2.2.1 16 = .ok (.new 16, 3) := by decide +kernel
theorem e_X_init_19 : decode k_X_init.2.2.1 19 = .ok (.dup, 1) := by decide +kernel
theorem e_X_init_20 : decode k_X_init.2.2.1 20 = .ok (.invokespecial 18, 3) := by decide +kernel
theorem e_X_init_23 : decode k_X_init.2.2.1 23 = .ok (.putfield 19, 3) := by decide +kernel
theorem e_X_init_26 : decode k_X_init.2.2.1 26 = .ok (.aload_n 0, 1) := by decide +kernel
theorem e_X_init_27 : decode k_X_init.2.2.1 27 = .ok (.new 9, 3) := by decide +kernel
theorem e_X_init_30 : decode k_X_init.2.2.1 30 = .ok (.dup, 1) := by decide +kernel
theorem e_X_init_31 : decode k_X_init.2.2.1 31 = .ok (.invokespecial 11, 3) := by decide +kernel
theorem e_X_init_34 : decode k_X_init.2.2.1 34 = .ok (.putfield 23, 3) := by decide +kernel
theorem e_X_init_37 : decode k_X_init.2.2.1 37 = .ok (.aload_n 0, 1) := by decide +kernel
theorem e_X_init_38 : decode k_X_init.2.2.1 38 = .ok (.new 16, 3) := by decide +kernel
theorem e_X_init_41 : decode k_X_init.2.2.1 41 = .ok (.dup, 1) := by decide +kernel
theorem e_X_init_42 : decode k_X_init.2.2.1 42 = .ok (.invokespecial 18, 3) := by decide +kernel
theorem e_X_init_45 : decode k_X_init.2.2.1 45 = .ok (.putfield 26, 3) := by decide +kernel
theorem e_X_init_48 : decode k_X_init.2.2.1 48 = .ok (.aload_n 0, 1) := by decide +kernel
theorem e_X_init_49 : decode k_X_init.2.2.1 49 = .ok (.iconst 0, 1) := by decide +kernel
theorem e_X_init_50 : decode k_X_init.2.2.1 50 = .ok (.putfield 29, 3) := by decide +kernel
theorem e_X_init_53 : decode k_X_init.2.2.1 53 = .ok (.aload_n 0, 1) := by decide +kernel
theorem e_X_init_54 : decode k_X_init.2.2.1 54 = .ok (.new 33, 3) := by decide +kernel
theorem e_X_init_57 : decode k_X_init.2.2.1 57 = .ok (.dup, 1) := by decide +kernel
theorem e_X_init_58 : decode k_X_init.2.2.1 58 = .ok (.invokespecial 35, 3) := by decide +kernel
theorem e_X_init_61 : decode k_X_init.2.2.1 61 = .ok (.putfield 36, 3) := by decide +kernel
theorem e_X_init_64 : decode k_X_init.2.2.1 64 = .ok (.aload_n 0, 1) := by decide +kernel
theorem e_X_init_65 : decode k_X_init.2.2.1 65 = .ok (.iconst 4, 1) := by decide +kernel
theorem e_X_init_66 : decode k_X_init.2.2.1 66 = .ok (.anewarray 40, 3) := by decide +kernel
theorem e_X_init_69 : decode k_X_init.2.2.1 69 = .ok (.putfield 42, 3) := by decide +kernel
theorem e_X_init_72 : decode k_X_init.2.2.1 72 = .ok (.iconst 0, 1) := by decide +kernel
theorem e_X_init_73 : decode k_X_init.2.2.1 73 = .ok (.istore_n 1, 1) := by decide +kernel
theorem e_X_init_74 : decode k_X_init.2.2.1 74 = .ok (.iload_n 1, 1) := by decide +kernel
theorem e_X_init_75 : decode k_X_init.2.2.1 75 = .ok (.iconst 4, 1) := by decide +kernel
theorem e_X_init_76 : decode k_X_init.2.2.1 76 = .ok (.if_icmp .ge 22, 3) := by decide +kernel
theorem e_X_init_79 : decode k_X_init.2.2.1 79 = .ok (.aload_n 0, 1) := by decide +kernel
theorem e_X_init_80 : decode k_X_init.2.2.1 80 = .ok (.getfield 42, 3) := by decide +kernel
theorem e_X_init_83 : decode k_X_init.2.2.1 83 = .ok (.iload_n 1, 1) := by decide +kernel
theorem e_X_init_84 : decode k_X_init.2.2.1 84 = .ok (.new 40, 3) := by decide +kernel
theorem e_X_init_87 : decode k_X_init.2.2.1 87 = .ok (.dup, 1) := by decide +kernel
theorem e_X_init_88 : decode k_X_init.2.2.1 88 = .ok (.invokespecial 46, 3) := by decide +kernel
theorem e_X_init_91 : decode k_X_init.2.2.1 91 = .ok (.aastore, 1) := by decide +kernel
theorem e_X_init_92 : decode k_X_init.2.2.1 92 = .ok (.iinc 1 1, 3) := by decide +kernel
theorem e_X_init_95 : decode k_X_init.2.2.1 95 = .ok (.goto (-21), 3) := by decide +kernel
theorem e_X_init_98 : decode k_X_init.2.2.1 98 = .ok (.return_, 1) := by decide +kernel
set_option maxHeartbeats 4000000 in
set_option maxRecDepth 100000 in
theorem i_X_init (l : Launch) (D : va_G) : Ini l D k_X_init 4 fsX 157 9911 MdX := by
  intro b0 t0 h0 sz hb0 hbs
  refine Met.ofW (cc := k_X_init.2.2.1) (maxL := 2) (ret := none) (by decide +kernel) rfl ?_
  intro p e s m args below meth c s₁ B hml hv
  obtain ⟨rfl, hsz, hP, hK, hIK⟩ := hv
  have hx := B.exec
  have hb := B.bytes
  have hr := B.returns
  have hts : ∀ w ∈ tb, w.before [Value.ref h0].toArray s = true := fun w hw => atoms_spec (ws := wsG k_X_init) B.pre w (List.mem_cons_of_mem _ hw)
  have hown : s.vm.findClass "MixRounds" = some m.cls := findClass_of_methodNamed B.named
  have hlocks := B.notSynchronized
  have hin : meth.name = "<init>" := (name_of_methodNamed B.named B.method).1
  subst hsz
  have hA : ∀ q : Nat, s.heap.size ≤ q → IA h0 s.heap.size q := fun q h => Or.inr h
  have hS : va_S (IA h0 s.heap.size) s.heap s.heap [] := va_S.rf
  have X : Ctx k_X_init p (rmI 3 157 9911) s m [Value.ref h0].toArray c b0 t0 (IA h0 s.heap.size) := ⟨hx, hb, hml, hown, hts, hIK, hA, fun a h => by rcases h with rfl | h <;> omega⟩
  have hl := lv_entry ([.ref h0]) (n := 2) (Nat.le_of_ble_eq_true rfl)
  rw [lg_entry_eq]
  generalize (lg_sl ([.ref h0]) ++ List.replicate (2 - (lg_sl ([.ref h0])).length) Slot.unset).toArray = ls at hl ⊢
  have hl : lv_has ls 2 [(0, .ref h0)] := hl
  have hD : va_D (IA h0 s.heap.size) [(h0, .inr (4, fsX))] := va_D1 (Or.inl rfl)
  refine lv_aload_n hx hb e_X_init_0 rfl (lv_at hl 0 rfl) ?_
  refine W.objInit hx hb hown (hts (.methodLink "MixRounds" 3 Lib.objectInit) (tb_at 58 (by decide +kernel) (by decide +kernel))) (hts (.instanceMethod Lib.objectInit) (tb_at 59 (by decide +kernel) (by decide +kernel))) (hts (.code Lib.objectInit ⟨#[0xb1]⟩ 1 none) (tb_at 60 (by decide +kernel) (by decide +kernel))) rfl (by rw [hml]; exact hl.1) rfl e_X_init_1 (Nat.le_of_ble_eq_true rfl) (Nat.le_of_ble_eq_true rfl) ?_
  refine W.eq (g2 := F0 m 4 ls []) rfl ?_
  refine lv_aload_n hx hb e_X_init_4 rfl (lv_at hl 0 rfl) ?_
  refine mkI X ci_X_init_B_init_9 (i_B_init l D) e_X_init_5 e_X_init_8 e_X_init_9 ⟨by decide, by decide⟩ (Nat.le_of_ble_eq_true rfl) (Nat.le_of_ble_eq_true rfl) (Nat.le_of_ble_eq_true rfl) hl.1 hK hP hD hS (fun a1 w1 t1 H locs hM1 hP hD hK hS => ?_)
  have hK : va_K D vwCl t1 s := hK
  refine va_putF (D := D) (ci := 4) (v := .ref a1) (ty := .object "MixRounds$Book") (C := RX5) (T := TX5) (N := 7) hx hb hts iw_X tyX5 tyX5_ok nmX5 hown hK hP hD hS 0 rfl rfl 0 (by decide) (hts (.fieldLink "MixRounds" 12 "MixRounds" "book" "LMixRounds$Book;") (tb_at 194 (by decide +kernel) (by decide +kernel))) (fun _ h9 => h9) rfl hin rfl (by decide +kernel) rfl rfl (Nat.le_of_ble_eq_true rfl) e_X_init_12 (fun H locs hP hD hS => ?_)
  have hP : va_P D vwCl ((h0, .inr (4, [.ref a1, .null, .null, .null, .int 0, .null, .null])) :: w1) H := hP
  have hD : va_D (IA h0 s.heap.size) ((h0, .inr (4, [.ref a1, .null, .null, .null, .int 0, .null, .null])) :: w1) := hD
  refine lv_aload_n hx hb e_X_init_15 rfl (lv_at hl 0 rfl) ?_
  refine mkI X ci_X_init_P_init_16 (i_P_init l D) e_X_init_16 e_X_init_19 e_X_init_20 ⟨by decide, by decide⟩ (Nat.le_of_ble_eq_true rfl) (Nat.le_of_ble_eq_true rfl) (Nat.le_of_ble_eq_true rfl) hl.1 hK hP hD hS (fun a2 w2 t2 H locs hM2 hP hD hK hS => ?_)
  have hK : va_K D vwCl (t1 ++ t2) s := hK
  refine va_putF (D := D) (ci := 4) (v := .ref a2) (ty := .object "MixRounds$Past") (C := RX5) (T := TX5) (N := 7) hx hb hts iw_X tyX5 tyX5_ok nmX5 hown hK hP hD hS 0 rfl rfl 1 (by decide) (hts (.fieldLink "MixRounds" 19 "MixRounds" "past" "LMixRounds$Past;") (tb_at 195 (by decide +kernel) (by decide +kernel))) (fun _ h9 => h9) rfl hin rfl (by decide +kernel) rfl rfl (Nat.le_of_ble_eq_true rfl) e_X_init_23 (fun H locs hP hD hS => ?_)
  have hP : va_P D vwCl ((h0, .inr (4, [.ref a1, .ref a2, .null, .null, .int 0, .null, .null])) :: (w1 ++ w2)) H := hP
  have hD : va_D (IA h0 s.heap.size) ((h0, .inr (4, [.ref a1, .ref a2, .null, .null, .int 0, .null, .null])) :: (w1 ++ w2)) := hD
  refine lv_aload_n hx hb e_X_init_26 rfl (lv_at hl 0 rfl) ?_
  refine mkI X ci_X_init_B_init_9 (i_B_init l D) e_X_init_27 e_X_init_30 e_X_init_31 ⟨by decide, by decide⟩ (Nat.le_of_ble_eq_true rfl) (Nat.le_of_ble_eq_true rfl) (Nat.le_of_ble_eq_true rfl) hl.1 hK hP hD hS (fun a3 w3 t3 H locs hM3 hP hD hK hS => ?_)
  have hK : va_K D vwCl ((t1 ++ t2) ++ t3) s := hK
  refine va_putF (D := D) (ci := 4) (v := .ref a3) (ty := .object "MixRounds$Book") (C := RX5) (T := TX5) (N := 7) hx hb hts iw_X tyX5 tyX5_ok nmX5 hown hK hP hD hS 0 rfl rfl 2 (by decide) (hts (.fieldLink "MixRounds" 23 "MixRounds" "imageBook" "LMixRounds$Book;") (tb_at 196 (by decide +kernel) (by decide +kernel))) (fun _ h9 => h9) rfl hin rfl (by decide +kernel) rfl rfl (Nat.le_of_ble_eq_true rfl) e_X_init_34 (fun H locs hP hD hS => ?_)
  have hP : va_P D vwCl ((h0, .inr (4, [.ref a1, .ref a2, .ref a3, .null, .int 0, .null, .null])) :: ((w1 ++ w2) ++ w3)) H := hP
  have hD : va_D (IA h0 s.heap.size) ((h0, .inr (4, [.ref a1, .ref a2, .ref a3, .null, .int 0, .null, .null])) :: ((w1 ++ w2) ++ w3)) := hD
  refine lv_aload_n hx hb e_X_init_37 rfl (lv_at hl 0 rfl) ?_
  refine mkI X ci_X_init_P_init_16 (i_P_init l D) e_X_init_38 e_X_init_41 e_X_init_42 ⟨by decide, by decide⟩ (Nat.le_of_ble_eq_true rfl) (Nat.le_of_ble_eq_true rfl) (Nat.le_of_ble_eq_true rfl) hl.1 hK hP hD hS (fun a4 w4 t4 H locs hM4 hP hD hK hS => ?_)
  have hK : va_K D vwCl (((t1 ++ t2) ++ t3) ++ t4) s := hK
  refine va_putF (D := D) (ci := 4) (v := .ref a4) (ty := .object "MixRounds$Past") (C := RX5) (T := TX5) (N := 7) hx hb hts iw_X tyX5 tyX5_ok nmX5 hown hK hP hD hS 0 rfl rfl 3 (by decide) (hts (.fieldLink "MixRounds" 26 "MixRounds" "imagePast" "LMixRounds$Past;") (tb_at 197 (by decide +kernel) (by decide +kernel))) (fun _ h9 => h9) rfl hin rfl (by decide +kernel) rfl rfl (Nat.le_of_ble_eq_true rfl) e_X_init_45 (fun H locs hP hD hS => ?_)
  have hP : va_P D vwCl ((h0, .inr (4, [.ref a1, .ref a2, .ref a3, .ref a4, .int 0, .null, .null])) :: (((w1 ++ w2) ++ w3) ++ w4)) H := hP
  have hD : va_D (IA h0 s.heap.size) ((h0, .inr (4, [.ref a1, .ref a2, .ref a3, .ref a4, .int 0, .null, .null])) :: (((w1 ++ w2) ++ w3) ++ w4)) := hD
  refine lv_aload_n hx hb e_X_init_48 rfl (lv_at hl 0 rfl) ?_
  refine lv_iconst (v := 0) hx hb e_X_init_49 (by decide) ?_
  refine va_put (D := D) (ci := 4) (v := .int 0) (ty := .boolean) (C := RX5) (T := TX5) (N := 7) hx hb hts iw_X tyX5 tyX5_ok nmX5 hown hK hP hD hS 0 rfl rfl 4 (by decide) (hts (.fieldLink "MixRounds" 29 "MixRounds" "imaged" "Z") (tb_at 198 (by decide +kernel) (by decide +kernel))) (fun _ h9 => h9) rfl (by decide +kernel) rfl rfl (Nat.le_of_ble_eq_true rfl) e_X_init_50 (fun H locs hP hD hS => ?_)
  have hP : va_P D vwCl ((h0, .inr (4, [.ref a1, .ref a2, .ref a3, .ref a4, .int 0, .null, .null])) :: (((w1 ++ w2) ++ w3) ++ w4)) H := hP
  have hD : va_D (IA h0 s.heap.size) ((h0, .inr (4, [.ref a1, .ref a2, .ref a3, .ref a4, .int 0, .null, .null])) :: (((w1 ++ w2) ++ w3) ++ w4)) := hD
  refine lv_aload_n hx hb e_X_init_53 rfl (lv_at hl 0 rfl) ?_
  refine mkI X ci_X_init_T_init_33 (i_T_init l D) e_X_init_54 e_X_init_57 e_X_init_58 ⟨by decide, by decide⟩ (Nat.le_of_ble_eq_true rfl) (Nat.le_of_ble_eq_true rfl) (Nat.le_of_ble_eq_true rfl) hl.1 hK hP hD hS (fun a5 w5 t5 H locs hM5 hP hD hK hS => ?_)
  have hK : va_K D vwCl ((((t1 ++ t2) ++ t3) ++ t4) ++ t5) s := hK
  refine va_putF (D := D) (ci := 4) (v := .ref a5) (ty := .object "MixRounds$Tape") (C := RX5) (T := TX5) (N := 7) hx hb hts iw_X tyX5 tyX5_ok nmX5 hown hK hP hD hS 0 rfl rfl 5 (by decide) (hts (.fieldLink "MixRounds" 36 "MixRounds" "tape" "LMixRounds$Tape;") (tb_at 199 (by decide +kernel) (by decide +kernel))) (fun _ h9 => h9) rfl hin rfl (by decide +kernel) rfl rfl (Nat.le_of_ble_eq_true rfl) e_X_init_61 (fun H locs hP hD hS => ?_)
  have hP : va_P D vwCl ((h0, .inr (4, [.ref a1, .ref a2, .ref a3, .ref a4, .int 0, .ref a5, .null])) :: ((((w1 ++ w2) ++ w3) ++ w4) ++ w5)) H := hP
  have hD : va_D (IA h0 s.heap.size) ((h0, .inr (4, [.ref a1, .ref a2, .ref a3, .ref a4, .int 0, .ref a5, .null])) :: ((((w1 ++ w2) ++ w3) ++ w4) ++ w5)) := hD
  refine lv_aload_n hx hb e_X_init_64 rfl (lv_at hl 0 rfl) ?_
  refine lv_iconst (v := 4) hx hb e_X_init_65 (by decide) ?_
  refine va_newq (n := 4) (N' := 4) hx hb hown (hts (.classLink "MixRounds" 40 "MixRounds$Sheet") (tb_at 173 (by decide +kernel) (by decide +kernel))) hIK.2.2.2.2 hK hP hD hS hA (by decide) (by decide) (Nat.le_of_ble_eq_true rfl) (Nat.le_of_ble_eq_true rfl) (Nat.le_of_ble_eq_true rfl) e_X_init_66 (fun q cq H hK hP hD hS => ?_)
  refine va_putF (D := D) (ci := 4) (v := .ref q) (ty := .array (.object "MixRounds$Sheet")) (C := RX5) (T := TX5) (N := 7) hx hb hts iw_X tyX5 tyX5_ok nmX5 hown hK hP hD hS 0 rfl rfl 6 (by decide) (hts (.fieldLink "MixRounds" 42 "MixRounds" "sheets" "[LMixRounds$Sheet;") (tb_at 200 (by decide +kernel) (by decide +kernel))) (fun _ h9 => h9) rfl hin rfl (by decide +kernel) rfl rfl (Nat.le_of_ble_eq_true rfl) e_X_init_69 (fun H locs hP hD hS => ?_)
  have hP : va_P D vwCl ((h0, .inr (4, [.ref a1, .ref a2, .ref a3, .ref a4, .int 0, .ref a5, .ref q])) :: (((((w1 ++ w2) ++ w3) ++ w4) ++ w5) ++ [(q, .inl (cq, 4, .inr (.inr (.inr (.inr (fun _ => none))))))])) H := hP
  have hD : va_D (IA h0 s.heap.size) ((h0, .inr (4, [.ref a1, .ref a2, .ref a3, .ref a4, .int 0, .ref a5, .ref q])) :: (((((w1 ++ w2) ++ w3) ++ w4) ++ w5) ++ [(q, .inl (cq, 4, .inr (.inr (.inr (.inr (fun _ => none))))))])) := hD
  generalize hrest : ((((w1 ++ w2) ++ w3) ++ w4) ++ w5) = rest at hP hD
  generalize htr : ((((t1 ++ t2) ++ t3) ++ t4) ++ t5) = tr at hK
  have hperm : ((h0, obX a1 a2 a3 a4 a5 q) :: (rest ++ [(q, (.inl (cq, 4, .inr (.inr (.inr (.inr (fun _ => none))))) : va_E))])).Perm ((h0, obX a1 a2 a3 a4 a5 q) :: (q, .inl (cq, 4, .inr (.inr (.inr (.inr (fun _ => none)))))) :: rest) := List.Perm.cons _ (List.perm_append_singleton _ _)
  have hP : va_P D vwCl (wXb h0 a1 a2 a3 a4 a5 q cq rest (fun _ _ => 0) (fun _ _ => cq) 0) H := by
    have := va_P.perm hP hperm
    unfold wXb; simp only [fW, List.append_nil]; exact this
  have hD : va_D (IA h0 s.heap.size) (wXb h0 a1 a2 a3 a4 a5 q cq rest (fun _ _ => 0) (fun _ _ => cq) 0) := by
    have := va_D.perm hD hperm
    unfold wXb; simp only [fW, List.append_nil]; exact this
  have hK : va_K D vwCl (tXb tr cq (fun _ _ => cq) 0) s := by unfold tXb; simp only [fT, List.append_nil]; exact hK
  refine lv_iconst (v := 0) hx hb e_X_init_72 (by decide) ?_
  refine lv_istore_n (lv' := [(1, .int 0), (0, .ref h0)]) hx hb e_X_init_73 rfl hl (by decide) rfl (fun ls hl => ?_)
  have loop : ∀ (n b : Nat), b + n = 4 → ∀ (Rr : Nat → Nat → Nat) (Kf : Nat → Nat → ClassId) (H : Heap) (locs : List Loc) (ls : Array Slot), lv_has ls 2 [(1, .int (Int32.ofNat b)), (0, .ref h0)] → va_K D vwCl (tXb tr cq Kf b) s → va_P D vwCl (wXb h0 a1 a2 a3 a4 a5 q cq rest Rr Kf b) H → va_D (IA h0 s.heap.size) (wXb h0 a1 a2 a3 a4 a5 q cq rest Rr Kf b) → va_S (IA h0 s.heap.size) s.heap H locs →
      W p l e (rmI 3 157 9911) s m [Value.ref h0].toArray below meth c H locs (149 + 2 * b) (9803 + 27 * b) (MQ below (QI0 D MdX h0 s.heap.size) [Value.ref h0].toArray s 157 9911 (IA h0 s.heap.size)) (F0 m 74 ls []) := by
    intro n
    induction n with
    | zero =>
      intro b hb6 Rr Kf H locs ls hl hK hP hD hS
      obtain rfl : b = 4 := by omega
      refine lv_iload_n hx hb e_X_init_74 rfl (lv_at hl 0 rfl) ?_
      refine lv_iconst (v := 4) hx hb e_X_init_75 (by decide) ?_
      refine lv_icmp_ge (tgt := 98) hx hb e_X_init_76 (by decide) (fun _ => ?_) (fun h => absurd (by decide) h)
      exact W.vret hx hb hr (fun t ht hW => ⟨⟨(), rfl, trivial, _, _, ⟨a1, a2, a3, a4, a5, q, cq, w1, w2, w3, w4, w5, t1, t2, t3, t4, t5, Rr, Kf, hM1, hM2, hM3, hM4, hM5, by rw [hrest], by rw [htr]⟩, by rw [ht]; exact hP, va_K.moved hW.alike hK, hD⟩, hS.F ht⟩) hS.2.2 e_X_init_98
    | succ n ih =>
      intro b hb6 Rr Kf H locs ls hl hK hP hD hS
      have htt : (tXb tr cq Kf b)[tr.length]? = some (cq, .object "MixRounds$Sheet") := by
        unfold tXb
        rw [List.getElem?_append_left (by simp), List.getElem?_append_right (Nat.le_refl _), Nat.sub_self]
        rfl
      refine lv_iload_n hx hb e_X_init_74 rfl (lv_at hl 0 rfl) ?_
      refine lv_iconst (v := 4) hx hb e_X_init_75 (by decide) ?_
      refine lv_icmp_ge (tgt := 98) hx hb e_X_init_76 (by decide) (fun h => absurd h (i4l b (by omega))) (fun _ => ?_)
      refine lv_aload_n hx hb e_X_init_79 rfl (lv_at hl 1 rfl) ?_
      refine va_get (D := D) (ci := 4) (v := .ref q) (C := RX5) (T := TX5) (N := 7) hx hb hts iw_X hown hK hP 0 rfl rfl 6 (by decide) (hts (.fieldLink "MixRounds" 42 "MixRounds" "sheets" "[LMixRounds$Sheet;") (tb_at 200 (by decide +kernel) (by decide +kernel))) (fun _ h9 => h9) rfl e_X_init_80 ?_
      refine lv_iload_n hx hb e_X_init_83 rfl (lv_at hl 0 rfl) ?_
      refine mkI X ci_X_init_H_init_40 (i_H_init l D) e_X_init_84 e_X_init_87 e_X_init_88 ⟨by decide, by decide⟩ (by show 149 + 2 * b + 1 + 1 ≤ 157; omega) (by show 9803 + 27 * b + 3 + 24 ≤ 9911; omega) (Nat.le_of_ble_eq_true rfl) hl.1 hK hP hD hS (fun h1 w ty H locs hMd hP hD hK hS => ?_)
      obtain ⟨r, k, rfl, rfl, rfl⟩ := hMd
      refine va_astq (r := (RX2, TX2, 3)) (cA := cq) (n := 4) (f := fR Rr b) (v := r 0) hx hb hK hP hD hS 1 tr.length ((rest ++ fW wH Rr Kf b).length + 2) 2 rfl (by
        rw [List.getElem?_append_left (List.getElem?_eq_some_iff.mp htt).1]; exact htt) (by
        show ((rest ++ fW wH Rr Kf b) ++ wH r k)[(rest ++ fW wH Rr Kf b).length]? = _
        rw [List.getElem?_append_right (Nat.le_refl _), Nat.sub_self]
        rfl) rfl (i4v b (by omega)) e_X_init_91 (fun H locs hP hD hS => ?_)
      rw [i6c b (by omega), fR_S] at hP hD
      have eW : (h0, obX a1 a2 a3 a4 a5 q) :: (q, (.inl (cq, 4, .inr (.inr (.inr (.inr (fR (fun i => if i = b then r else Rr i) (b + 1)))))) : va_E)) :: ((rest ++ fW wH Rr Kf b) ++ wH r k) = wXb h0 a1 a2 a3 a4 a5 q cq rest (fun i => if i = b then r else Rr i) (fun i => if i = b then k else Kf i) (b + 1) := by
        unfold wXb
        have e1 : fW wH (fun i => if i = b then r else Rr i) (fun i => if i = b then k else Kf i) (b + 1) = fW wH Rr Kf b ++ wH r k := by
          simp only [fW]
          rw [fW_ext b (fun i hi => ⟨if_neg (by omega), if_neg (by omega)⟩), if_pos trivial, if_pos trivial]
        rw [e1, List.append_assoc]
      have eT : tXb tr cq Kf b ++ tH k = tXb tr cq (fun i => if i = b then k else Kf i) (b + 1) := by
        unfold tXb
        have e1 : fT tH (fun i => if i = b then k else Kf i) (b + 1) = fT tH Kf b ++ tH k := by
          simp only [fT]
          rw [fT_ext b (fun i hi => if_neg (by omega)), if_pos trivial]
        rw [e1, List.append_assoc]
      have hP2 : va_P D vwCl (wXb h0 a1 a2 a3 a4 a5 q cq rest (fun i => if i = b then r else Rr i) (fun i => if i = b then k else Kf i) (b + 1)) H := by rw [← eW]; exact hP
      have hD2 : va_D (IA h0 s.heap.size) (wXb h0 a1 a2 a3 a4 a5 q cq rest (fun i => if i = b then r else Rr i) (fun i => if i = b then k else Kf i) (b + 1)) := by rw [← eW]; exact hD
      rw [eT] at hK
      refine lv_iinc (v := Int32.ofNat (b + 1)) (lv' := [(1, .int (Int32.ofNat (b + 1))), (0, .ref h0)]) hx hb e_X_init_92 hl (k := 0) rfl (i6 b (by omega)) (by decide) rfl (fun ls hl => ?_)
      refine lv_goto (tgt := 74) hx hb e_X_init_95 (by decide) ?_
      exact W.widen (by omega) (by omega) (ih (b + 1) (by omega) _ _ _ _ ls hl hK hP2 hD2 hS)
  exact W.widen (by decide) (by decide) (loop 4 0 (by omega) (fun _ _ => 0) (fun _ _ => cq) _ _ ls hl hK hP hD hS)
