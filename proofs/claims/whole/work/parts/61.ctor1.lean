theorem va_D1 {A : Nat → Prop} {a : Nat} {e : va_E} (h : A a) : va_D A [(a, e)] := by
  have key : ∀ (i : Nat) (x : Nat × va_E), ([(a, e)] : va_W)[i]? = some x → i = 0 ∧ x.1 = a := fun i x hx => by
    have hz : i < 1 := (List.getElem?_eq_some_iff.mp hx).1
    obtain rfl : i = 0 := by omega
    cases hx; exact ⟨rfl, rfl⟩
  exact ⟨fun i j x y hx hy _ => by rw [(key i x hx).1, (key j y hy).1], fun k x hx => by rw [(key k x hx).2]; exact h⟩
def wH (r : Nat → Nat) (k : Nat → ClassId) : va_W := [(r 0, .inr (2, [.int (-1), .int 0, .ref (r 3)])), (r 3, .inl (k 2, 24, .inr (.inl (fun _ => 0))))]
def tH (k : Nat → ClassId) : List (ClassId × FieldType) := [(k 2, .long)]
def MdH : Nat → va_W → List (ClassId × FieldType) → Prop := fun h0 w ty => ∃ (r : Nat → Nat) (k : Nat → ClassId), r 0 = h0 ∧ w = wH r k ∧ ty = tH k
def fsH : List Value := [.int 0, .int 0, .null]
theorem e_H_init_0 : decode k_H_init.2.2.1 0 = .ok (.aload_n 0, 1) := by decide +kernel
theorem e_H_init_1 : decode k_H_init.2.2.1 1 = .ok (.invokespecial 3, 3) := by decide +kernel
theorem e_H_init_4 : decode k_H_init.2.2.1 4 = .ok (.aload_n 0, 1) := by decide +kernel
theorem e_H_init_5 : decode k_H_init.2.2.1 5 = .ok (.iconst (-1), 1) := by decide +kernel
theorem e_H_init_6 : decode k_H_init.2.2.1 6 = .ok (.putfield 9, 3) := by decide +kernel
theorem e_H_init_9 : decode k_H_init.2.2.1 9 = .ok (.aload_n 0, 1) := by decide +kernel
theorem e_H_init_10 : decode k_H_init.2.2.1 10 = .ok (.iconst 0, 1) := by decide +kernel
theorem e_H_init_11 : decode k_H_init.2.2.1 11 = .ok (.putfield 15, 3) := by decide +kernel
theorem e_H_init_14 : decode k_H_init.2.2.1 14 = .ok (.aload_n 0, 1) := by decide +kernel
theorem e_H_init_15 : decode k_H_init.2.2.1 15 = .ok (.bipush 24, 2) := by decide +kernel
theorem e_H_init_17 : decode k_H_init.2.2.1 17 = .ok (.newarray .long, 2) := by decide +kernel
theorem e_H_init_19 : decode k_H_init.2.2.1 19 = .ok (.putfield 18, 3) := by decide +kernel
theorem e_H_init_22 : decode k_H_init.2.2.1 22 = .ok (.return_, 1) := by decide +kernel
set_option maxHeartbeats 4000000 in
set_option maxRecDepth 100000 in
theorem i_H_init (l : Launch) (D : va_G) : Ini l D k_H_init 2 fsH 1 24 MdH := by
  intro b0 t0 h0 sz hb0 hbs
  refine Met.ofW (cc := k_H_init.2.2.1) (maxL := 1) (ret := none) (by decide +kernel) rfl ?_
  intro p e s m args below meth c s₁ B hml hv
  obtain ⟨rfl, hsz, hP, hK, hIK⟩ := hv
  have hx := B.exec
  have hb := B.bytes
  have hr := B.returns
  have hts : ∀ w ∈ tb, w.before [Value.ref h0].toArray s = true := fun w hw => atoms_spec (ws := wsG k_H_init) B.pre w (List.mem_cons_of_mem _ hw)
  have hown : s.vm.findClass "MixRounds$Sheet" = some m.cls := findClass_of_methodNamed B.named
  have hlocks := B.notSynchronized
  have hin : meth.name = "<init>" := (name_of_methodNamed B.named B.method).1
  subst hsz
  have hA : ∀ q : Nat, s.heap.size ≤ q → IA h0 s.heap.size q := fun q h => Or.inr h
  have hS : va_S (IA h0 s.heap.size) s.heap s.heap [] := va_S.rf
  have X : Ctx k_H_init p (rmI 1 1 24) s m [Value.ref h0].toArray c b0 t0 (IA h0 s.heap.size) := ⟨hx, hb, hml, hown, hts, hIK, hA, fun a h => by rcases h with rfl | h <;> omega⟩
  have hl := lv_entry ([.ref h0]) (n := 1) (Nat.le_of_ble_eq_true rfl)
  rw [lg_entry_eq]
  generalize (lg_sl ([.ref h0]) ++ List.replicate (1 - (lg_sl ([.ref h0])).length) Slot.unset).toArray = ls at hl ⊢
  have hl : lv_has ls 1 [(0, .ref h0)] := hl
  have hD : va_D (IA h0 s.heap.size) [(h0, .inr (2, [.int 0, .int 0, .null]))] := va_D1 (Or.inl rfl)
  have hP : va_P D vwCl [(h0, .inr (2, [.int 0, .int 0, .null]))] s.heap := hP
  refine lv_aload_n hx hb e_H_init_0 rfl (lv_at hl 0 rfl) ?_
  refine W.objInit hx hb hown (hts (.methodLink "MixRounds$Sheet" 3 Lib.objectInit) (tb_at 179 (by decide +kernel) (by decide +kernel))) (hts (.instanceMethod Lib.objectInit) (tb_at 59 (by decide +kernel) (by decide +kernel))) (hts (.code Lib.objectInit ⟨#[0xb1]⟩ 1 none) (tb_at 60 (by decide +kernel) (by decide +kernel))) rfl (by rw [hml]; exact hl.1) rfl e_H_init_1 (Nat.le_of_ble_eq_true rfl) (Nat.le_of_ble_eq_true rfl) ?_
  refine W.eq (g2 := F0 m 4 ls []) rfl ?_
  refine lv_aload_n hx hb e_H_init_4 rfl (lv_at hl 0 rfl) ?_
  refine lv_iconst (v := (-1)) hx hb e_H_init_5 (by decide) ?_
  refine va_put (D := D) (ci := 2) (v := .int (-1)) (ty := .int) (C := RX2) (T := TX2) (N := 3) hx hb hts iw_H tyX2 tyX2_ok nmX2 hown hK hP hD hS 0 rfl rfl 0 (by decide) (hts (.fieldLink "MixRounds$Sheet" 9 "MixRounds$Sheet" "lane" "I") (tb_at 180 (by decide +kernel) (by decide +kernel))) (fun _ h9 => h9) rfl (by decide +kernel) rfl rfl (Nat.le_of_ble_eq_true rfl) e_H_init_6 (fun H locs hP hD hS => ?_)
  have hP : va_P D vwCl [(h0, .inr (2, [.int (-1), .int 0, .null]))] H := hP
  have hD : va_D (IA h0 s.heap.size) [(h0, .inr (2, [.int (-1), .int 0, .null]))] := hD
  refine lv_aload_n hx hb e_H_init_9 rfl (lv_at hl 0 rfl) ?_
  refine lv_iconst (v := 0) hx hb e_H_init_10 (by decide) ?_
  refine va_put (D := D) (ci := 2) (v := .int 0) (ty := .int) (C := RX2) (T := TX2) (N := 3) hx hb hts iw_H tyX2 tyX2_ok nmX2 hown hK hP hD hS 0 rfl rfl 1 (by decide) (hts (.fieldLink "MixRounds$Sheet" 15 "MixRounds$Sheet" "size" "I") (tb_at 182 (by decide +kernel) (by decide +kernel))) (fun _ h9 => h9) rfl (by decide +kernel) rfl rfl (Nat.le_of_ble_eq_true rfl) e_H_init_11 (fun H locs hP hD hS => ?_)
  have hP : va_P D vwCl [(h0, .inr (2, [.int (-1), .int 0, .null]))] H := hP
  have hD : va_D (IA h0 s.heap.size) [(h0, .inr (2, [.int (-1), .int 0, .null]))] := hD
  refine lv_aload_n hx hb e_H_init_14 rfl (lv_at hl 0 rfl) ?_
  refine lv_bipush (v := 24) hx hb e_H_init_15 (by decide) ?_
  refine va_newa (atype := .long) (ty := .long) (n := 24) (N' := 24) (a0 := (24, .inr (.inl (fun _ => 0)))) hx hb (hts (.arrayClass .long) (tb_at 193 (by decide +kernel) (by decide +kernel))) rfl hK hP hD hS hA (fun _ => rfl) (by decide) (by decide +kernel) (Nat.le_of_ble_eq_true rfl) (Nat.le_of_ble_eq_true rfl) (Nat.le_of_ble_eq_true rfl) e_H_init_17 (fun q17 cq17 H hK hP hD hS => ?_)
  have hP : va_P D vwCl [(h0, .inr (2, [.int (-1), .int 0, .null])), (q17, .inl (cq17, 24, .inr (.inl (fun _ => 0))))] H := hP
  have hD : va_D (IA h0 s.heap.size) [(h0, .inr (2, [.int (-1), .int 0, .null])), (q17, .inl (cq17, 24, .inr (.inl (fun _ => 0))))] := hD
  have hK : va_K D vwCl [(cq17, .long)] s := hK
  refine va_putF (D := D) (ci := 2) (v := .ref q17) (ty := .array .long) (C := RX2) (T := TX2) (N := 3) hx hb hts iw_H tyX2 tyX2_ok nmX2 hown hK hP hD hS 0 rfl rfl 2 (by decide) (hts (.fieldLink "MixRounds$Sheet" 18 "MixRounds$Sheet" "items" "[J") (tb_at 184 (by decide +kernel) (by decide +kernel))) (fun _ h9 => h9) rfl hin rfl (by decide +kernel) rfl rfl (Nat.le_of_ble_eq_true rfl) e_H_init_19 (fun H locs hP hD hS => ?_)
  have hP : va_P D vwCl [(h0, .inr (2, [.int (-1), .int 0, .ref q17])), (q17, .inl (cq17, 24, .inr (.inl (fun _ => 0))))] H := hP
  have hD : va_D (IA h0 s.heap.size) [(h0, .inr (2, [.int (-1), .int 0, .ref q17])), (q17, .inl (cq17, 24, .inr (.inl (fun _ => 0))))] := hD
  refine W.widen (k := 1) (n := 24) (Nat.le_of_ble_eq_true rfl) (Nat.le_of_ble_eq_true rfl) ?_
  exact W.vret hx hb hr (fun t ht hW => ⟨⟨(), rfl, trivial, [(h0, .inr (2, [.int (-1), .int 0, .ref q17])), (q17, .inl (cq17, 24, .inr (.inl (fun _ => 0))))], [(cq17, .long)], ⟨fun j => match j with | 0 => h0 | 3 => q17 | _ => 0, fun j => match j with | 2 => cq17 | _ => cq17, rfl, rfl, rfl⟩, by rw [ht]; exact hP, va_K.moved hW.alike hK, hD⟩, hS.F ht⟩) hS.2.2 e_H_init_22
def wT (r : Nat → Nat) (k : Nat → ClassId) : va_W := [(r 0, .inr (3, [.ref (r 1), .int 0, .ref (r 3), .ref (r 4), .int 0])), (r 1, .inl (k 0, 90, .inl (fun _ => 0))), (r 3, .inl (k 2, 90, .inl (fun _ => 0))), (r 4, .inl (k 3, 90, .inl (fun _ => 0)))]
def tT (k : Nat → ClassId) : List (ClassId × FieldType) := [(k 0, .int), (k 2, .int), (k 3, .int)]
def MdT : Nat → va_W → List (ClassId × FieldType) → Prop := fun h0 w ty => ∃ (r : Nat → Nat) (k : Nat → ClassId), r 0 = h0 ∧ w = wT r k ∧ ty = tT k
def fsT : List Value := [.null, .int 0, .null, .null, .int 0]
theorem e_T_init_0 : decode k_T_init.2.2.1 0 = .ok (.aload_n 0, 1) := by decide +kernel
theorem e_T_init_1 : decode k_T_init.2.2.1 1 = .ok (.invokespecial 3, 3) := by decide +kernel
theorem e_T_init_4 : decode k_T_init.2.2.1 4 = .ok (.aload_n 0, 1) := by decide +kernel
theorem e_T_init_5 : decode k_T_init.2.2.1 5 = .ok (.bipush 90, 2) := by decide +kernel
theorem e_T_init_7 : decode k_T_init.2.2.1 7 = .ok (.newarray .int, 2) := by decide +kernel
theorem e_T_init_9 : decode k_T_init.2.2.1 9 = .ok (.putfield 9, 3) := by decide +kernel
theorem e_T_init_12 : decode k_T_init.2.2.1 12 = .ok (.aload_n 0, 1) := by decide +kernel
theorem e_T_init_13 : decode k_T_init.2.2.1 13 = .ok (.iconst 0, 1) := by decide +kernel
theorem e_T_init_14 : decode k_T_init.2.2.1 14 = .ok (.putfield 15, 3) := by decide +kernel
theorem e_T_init_17 : decode k_T_init.2.2.1 17 = .ok (.aload_n 0, 1) := by decide +kernel
theorem e_T_init_18 : decode k_T_init.2.2.1 18 = .ok (.bipush 90, 2) := by decide +kernel
theorem e_T_init_20 : decode k_T_init.2.2.1 20 = .ok (.newarray .int, 2) := by decide +kernel
theorem e_T_init_22 : decode k_T_init.2.2.1 22 = .ok (.putfield 19, 3) := by decide +kernel
theorem e_T_init_25 : decode k_T_init.2.2.1 25 = .ok (.aload_n 0, 1) := by decide +kernel
theorem e_T_init_26 : decode k_T_init.2.2.1 26 = .ok (.bipush 90, 2) := by decide +kernel
theorem e_T_init_28 : decode k_T_init.2.2.1 28 = .ok (.newarray .int, 2) := by decide +kernel
theorem e_T_init_30 : decode k_T_init.2.2.1 30 = .ok (.putfield 22, 3) := by decide +kernel
theorem e_T_init_33 : decode k_T_init.2.2.1 33 = .ok (.aload_n 0, 1) := by decide +kernel
theorem e_T_init_34 : decode k_T_init.2.2.1 34 = .ok (.iconst 0, 1) := by decide +kernel
theorem e_T_init_35 : decode k_T_init.2.2.1 35 = .ok (.putfield 25, 3) := by decide +kernel
theorem e_T_init_38 : decode k_T_init.2.2.1 38 = .ok (.return_, 1) := by decide +kernel
set_option maxHeartbeats 4000000 in
set_option maxRecDepth 100000 in
theorem i_T_init (l : Launch) (D : va_G) : Ini l D k_T_init 3 fsT 3 270 MdT := by
  intro b0 t0 h0 sz hb0 hbs
  refine Met.ofW (cc := k_T_init.2.2.1) (maxL := 1) (ret := none) (by decide +kernel) rfl ?_
  intro p e s m args below meth c s₁ B hml hv
  obtain ⟨rfl, hsz, hP, hK, hIK⟩ := hv
  have hx := B.exec
  have hb := B.bytes
  have hr := B.returns
  have hts : ∀ w ∈ tb, w.before [Value.ref h0].toArray s = true := fun w hw => atoms_spec (ws := wsG k_T_init) B.pre w (List.mem_cons_of_mem _ hw)
  have hown : s.vm.findClass "MixRounds$Tape" = some m.cls := findClass_of_methodNamed B.named
  have hlocks := B.notSynchronized
  have hin : meth.name = "<init>" := (name_of_methodNamed B.named B.method).1
  subst hsz
  have hA : ∀ q : Nat, s.heap.size ≤ q → IA h0 s.heap.size q := fun q h => Or.inr h
  have hS : va_S (IA h0 s.heap.size) s.heap s.heap [] := va_S.rf
  have X : Ctx k_T_init p (rmI 1 3 270) s m [Value.ref h0].toArray c b0 t0 (IA h0 s.heap.size) := ⟨hx, hb, hml, hown, hts, hIK, hA, fun a h => by rcases h with rfl | h <;> omega⟩
  have hl := lv_entry ([.ref h0]) (n := 1) (Nat.le_of_ble_eq_true rfl)
  rw [lg_entry_eq]
  generalize (lg_sl ([.ref h0]) ++ List.replicate (1 - (lg_sl ([.ref h0])).length) Slot.unset).toArray = ls at hl ⊢
  have hl : lv_has ls 1 [(0, .ref h0)] := hl
  have hD : va_D (IA h0 s.heap.size) [(h0, .inr (3, [.null, .int 0, .null, .null, .int 0]))] := va_D1 (Or.inl rfl)
  have hP : va_P D vwCl [(h0, .inr (3, [.null, .int 0, .null, .null, .int 0]))] s.heap := hP
  refine lv_aload_n hx hb e_T_init_0 rfl (lv_at hl 0 rfl) ?_
  refine W.objInit hx hb hown (hts (.methodLink "MixRounds$Tape" 3 Lib.objectInit) (tb_at 152 (by decide +kernel) (by decide +kernel))) (hts (.instanceMethod Lib.objectInit) (tb_at 59 (by decide +kernel) (by decide +kernel))) (hts (.code Lib.objectInit ⟨#[0xb1]⟩ 1 none) (tb_at 60 (by decide +kernel) (by decide +kernel))) rfl (by rw [hml]; exact hl.1) rfl e_T_init_1 (Nat.le_of_ble_eq_true rfl) (Nat.le_of_ble_eq_true rfl) ?_
  refine W.eq (g2 := F0 m 4 ls []) rfl ?_
  refine lv_aload_n hx hb e_T_init_4 rfl (lv_at hl 0 rfl) ?_
  refine lv_bipush (v := 90) hx hb e_T_init_5 (by decide) ?_
  refine va_newa (atype := .int) (ty := .int) (n := 90) (N' := 90) (a0 := (90, .inl (fun _ => 0))) hx hb (hts (.arrayClass .int) (tb_at 126 (by decide +kernel) (by decide +kernel))) rfl hK hP hD hS hA (fun _ => rfl) (by decide) (by decide +kernel) (Nat.le_of_ble_eq_true rfl) (Nat.le_of_ble_eq_true rfl) (Nat.le_of_ble_eq_true rfl) e_T_init_7 (fun q7 cq7 H hK hP hD hS => ?_)
  have hP : va_P D vwCl [(h0, .inr (3, [.null, .int 0, .null, .null, .int 0])), (q7, .inl (cq7, 90, .inl (fun _ => 0)))] H := hP
  have hD : va_D (IA h0 s.heap.size) [(h0, .inr (3, [.null, .int 0, .null, .null, .int 0])), (q7, .inl (cq7, 90, .inl (fun _ => 0)))] := hD
  have hK : va_K D vwCl [(cq7, .int)] s := hK
  refine va_putF (D := D) (ci := 3) (v := .ref q7) (ty := .array .int) (C := RX3) (T := TX3) (N := 5) hx hb hts iw_T tyX3 tyX3_ok nmX3 hown hK hP hD hS 0 rfl rfl 0 (by decide) (hts (.fieldLink "MixRounds$Tape" 9 "MixRounds$Tape" "signs" "[I") (tb_at 153 (by decide +kernel) (by decide +kernel))) (fun _ h9 => h9) rfl hin rfl (by decide +kernel) rfl rfl (Nat.le_of_ble_eq_true rfl) e_T_init_9 (fun H locs hP hD hS => ?_)
  have hP : va_P D vwCl [(h0, .inr (3, [.ref q7, .int 0, .null, .null, .int 0])), (q7, .inl (cq7, 90, .inl (fun _ => 0)))] H := hP
  have hD : va_D (IA h0 s.heap.size) [(h0, .inr (3, [.ref q7, .int 0, .null, .null, .int 0])), (q7, .inl (cq7, 90, .inl (fun _ => 0)))] := hD
  refine lv_aload_n hx hb e_T_init_12 rfl (lv_at hl 0 rfl) ?_
  refine lv_iconst (v := 0) hx hb e_T_init_13 (by decide) ?_
  refine va_put (D := D) (ci := 3) (v := .int 0) (ty := .int) (C := RX3) (T := TX3) (N := 5) hx hb hts iw_T tyX3 tyX3_ok nmX3 hown hK hP hD hS 0 rfl rfl 1 (by decide) (hts (.fieldLink "MixRounds$Tape" 15 "MixRounds$Tape" "length" "I") (tb_at 154 (by decide +kernel) (by decide +kernel))) (fun _ h9 => h9) rfl (by decide +kernel) rfl rfl (Nat.le_of_ble_eq_true rfl) e_T_init_14 (fun H locs hP hD hS => ?_)
  have hP : va_P D vwCl [(h0, .inr (3, [.ref q7, .int 0, .null, .null, .int 0])), (q7, .inl (cq7, 90, .inl (fun _ => 0)))] H := hP
  have hD : va_D (IA h0 s.heap.size) [(h0, .inr (3, [.ref q7, .int 0, .null, .null, .int 0])), (q7, .inl (cq7, 90, .inl (fun _ => 0)))] := hD
  refine lv_aload_n hx hb e_T_init_17 rfl (lv_at hl 0 rfl) ?_
  refine lv_bipush (v := 90) hx hb e_T_init_18 (by decide) ?_
  refine va_newa (atype := .int) (ty := .int) (n := 90) (N' := 90) (a0 := (90, .inl (fun _ => 0))) hx hb (hts (.arrayClass .int) (tb_at 126 (by decide +kernel) (by decide +kernel))) rfl hK hP hD hS hA (fun _ => rfl) (by decide) (by decide +kernel) (Nat.le_of_ble_eq_true rfl) (Nat.le_of_ble_eq_true rfl) (Nat.le_of_ble_eq_true rfl) e_T_init_20 (fun q20 cq20 H hK hP hD hS => ?_)
  have hP : va_P D vwCl [(h0, .inr (3, [.ref q7, .int 0, .null, .null, .int 0])), (q7, .inl (cq7, 90, .inl (fun _ => 0))), (q20, .inl (cq20, 90, .inl (fun _ => 0)))] H := hP
  have hD : va_D (IA h0 s.heap.size) [(h0, .inr (3, [.ref q7, .int 0, .null, .null, .int 0])), (q7, .inl (cq7, 90, .inl (fun _ => 0))), (q20, .inl (cq20, 90, .inl (fun _ => 0)))] := hD
  have hK : va_K D vwCl [(cq7, .int), (cq20, .int)] s := hK
  refine va_putF (D := D) (ci := 3) (v := .ref q20) (ty := .array .int) (C := RX3) (T := TX3) (N := 5) hx hb hts iw_T tyX3 tyX3_ok nmX3 hown hK hP hD hS 0 rfl rfl 2 (by decide) (hts (.fieldLink "MixRounds$Tape" 19 "MixRounds$Tape" "eventSenders" "[I") (tb_at 156 (by decide +kernel) (by decide +kernel))) (fun _ h9 => h9) rfl hin rfl (by decide +kernel) rfl rfl (Nat.le_of_ble_eq_true rfl) e_T_init_22 (fun H locs hP hD hS => ?_)
  have hP : va_P D vwCl [(h0, .inr (3, [.ref q7, .int 0, .ref q20, .null, .int 0])), (q7, .inl (cq7, 90, .inl (fun _ => 0))), (q20, .inl (cq20, 90, .inl (fun _ => 0)))] H := hP
  have hD : va_D (IA h0 s.heap.size) [(h0, .inr (3, [.ref q7, .int 0, .ref q20, .null, .int 0])), (q7, .inl (cq7, 90, .inl (fun _ => 0))), (q20, .inl (cq20, 90, .inl (fun _ => 0)))] := hD
  refine lv_aload_n hx hb e_T_init_25 rfl (lv_at hl 0 rfl) ?_
  refine lv_bipush (v := 90) hx hb e_T_init_26 (by decide) ?_
  refine va_newa (atype := .int) (ty := .int) (n := 90) (N' := 90) (a0 := (90, .inl (fun _ => 0))) hx hb (hts (.arrayClass .int) (tb_at 126 (by decide +kernel) (by decide +kernel))) rfl hK hP hD hS hA (fun _ => rfl) (by decide) (by decide +kernel) (Nat.le_of_ble_eq_true rfl) (Nat.le_of_ble_eq_true rfl) (Nat.le_of_ble_eq_true rfl) e_T_init_28 (fun q28 cq28 H hK hP hD hS => ?_)
  have hP : va_P D vwCl [(h0, .inr (3, [.ref q7, .int 0, .ref q20, .null, .int 0])), (q7, .inl (cq7, 90, .inl (fun _ => 0))), (q20, .inl (cq20, 90, .inl (fun _ => 0))), (q28, .inl (cq28, 90, .inl (fun _ => 0)))] H := hP
  have hD : va_D (IA h0 s.heap.size) [(h0, .inr (3, [.ref q7, .int 0, .ref q20, .null, .int 0])), (q7, .inl (cq7, 90, .inl (fun _ => 0))), (q20, .inl (cq20, 90, .inl (fun _ => 0))), (q28, .inl (cq28, 90, .inl (fun _ => 0)))] := hD
  have hK : va_K D vwCl [(cq7, .int), (cq20, .int), (cq28, .int)] s := hK
  refine va_putF (D := D) (ci := 3) (v := .ref q28) (ty := .array .int) (C := RX3) (T := TX3) (N := 5) hx hb hts iw_T tyX3 tyX3_ok nmX3 hown hK hP hD hS 0 rfl rfl 3 (by decide) (hts (.fieldLink "MixRounds$Tape" 22 "MixRounds$Tape" "eventReceivers" "[I") (tb_at 158 (by decide +kernel) (by decide +kernel))) (fun _ h9 => h9) rfl hin rfl (by decide +kernel) rfl rfl (Nat.le_of_ble_eq_true rfl) e_T_init_30 (fun H locs hP hD hS => ?_)
  have hP : va_P D vwCl [(h0, .inr (3, [.ref q7, .int 0, .ref q20, .ref q28, .int 0])), (q7, .inl (cq7, 90, .inl (fun _ => 0))), (q20, .inl (cq20, 90, .inl (fun _ => 0))), (q28, .inl (cq28, 90, .inl (fun _ => 0)))] H := hP
  have hD : va_D (IA h0 s.heap.size) [(h0, .inr (3, [.ref q7, .int 0, .ref q20, .ref q28, .int 0])), (q7, .inl (cq7, 90, .inl (fun _ => 0))), (q20, .inl (cq20, 90, .inl (fun _ => 0))), (q28, .inl (cq28, 90, .inl (fun _ => 0)))] := hD
  refine lv_aload_n hx hb e_T_init_33 rfl (lv_at hl 0 rfl) ?_
  refine lv_iconst (v := 0) hx hb e_T_init_34 (by decide) ?_
  refine va_put (D := D) (ci := 3) (v := .int 0) (ty := .int) (C := RX3) (T := TX3) (N := 5) hx hb hts iw_T tyX3 tyX3_ok nmX3 hown hK hP hD hS 0 rfl rfl 4 (by decide) (hts (.fieldLink "MixRounds$Tape" 25 "MixRounds$Tape" "events" "I") (tb_at 160 (by decide +kernel) (by decide +kernel))) (fun _ h9 => h9) rfl (by decide +kernel) rfl rfl (Nat.le_of_ble_eq_true rfl) e_T_init_35 (fun H locs hP hD hS => ?_)
  have hP : va_P D vwCl [(h0, .inr (3, [.ref q7, .int 0, .ref q20, .ref q28, .int 0])), (q7, .inl (cq7, 90, .inl (fun _ => 0))), (q20, .inl (cq20, 90, .inl (fun _ => 0))), (q28, .inl (cq28, 90, .inl (fun _ => 0)))] H := hP
  have hD : va_D (IA h0 s.heap.size) [(h0, .inr (3, [.ref q7, .int 0, .ref q20, .ref q28, .int 0])), (q7, .inl (cq7, 90, .inl (fun _ => 0))), (q20, .inl (cq20, 90, .inl (fun _ => 0))), (q28, .inl (cq28, 90, .inl (fun _ => 0)))] := hD
  refine W.widen (k := 3) (n := 270) (Nat.le_of_ble_eq_true rfl) (Nat.le_of_ble_eq_true rfl) ?_
  exact W.vret hx hb hr (fun t ht hW => ⟨⟨(), rfl, trivial, [(h0, .inr (3, [.ref q7, .int 0, .ref q20, .ref q28, .int 0])), (q7, .inl (cq7, 90, .inl (fun _ => 0))), (q20, .inl (cq20, 90, .inl (fun _ => 0))), (q28, .inl (cq28, 90, .inl (fun _ => 0)))], [(cq7, .int), (cq20, .int), (cq28, .int)], ⟨fun j => match j with | 0 => h0 | 1 => q7 | 3 => q20 | 4 => q28 | _ => 0, fun j => match j with | 0 => cq7 | 2 => cq20 | 3 => cq28 | _ => cq7, rfl, rfl, rfl⟩, by rw [ht]; exact hP, va_K.moved hW.alike hK, hD⟩, hS.F ht⟩) hS.2.2 e_T_init_38
def wB (r : Nat → Nat) (k : Nat → ClassId) : va_W := [(r 0, .inr (0, [.ref (r 1), .int 1, .int 0, .ref (r 4), .ref (r 5), .ref (r 6), .ref (r 7), .ref (r 8), .int 0, .ref (r 10), .int 0, .ref (r 12), .ref (r 13)])), (r 1, .inl (k 0, 4, .inl told0)), (r 4, .inl (k 3, 79, .inl (fun _ => 0))), (r 5, .inl (k 4, 79, .inl (fun _ => 0))), (r 6, .inl (k 5, 79, .inl (fun _ => 0))), (r 7, .inl (k 6, 79, .inl (fun _ => 0))), (r 8, .inl (k 7, 79, .inl (fun _ => 0))), (r 10, .inl (k 9, 15, .inl (fun _ => 0))), (r 12, .inl (k 11, 72, .inl (fun _ => 0))), (r 13, .inl (k 12, 180, .inl (fun _ => 0)))]
def tB (k : Nat → ClassId) : List (ClassId × FieldType) := [(k 0, .int), (k 3, .int), (k 4, .int), (k 5, .int), (k 6, .int), (k 7, .int), (k 9, .int), (k 11, .int), (k 12, .int)]
def MdB : Nat → va_W → List (ClassId × FieldType) → Prop := fun h0 w ty => ∃ (r : Nat → Nat) (k : Nat → ClassId), r 0 = h0 ∧ w = wB r k ∧ ty = tB k
def fsB : List Value := [.null, .int 0, .int 0, .null, .null, .null, .null, .null, .int 0, .null, .int 0, .null, .null]
theorem e_B_init_0 : decode k_B_init.2.2.1 0 = .ok (.aload_n 0, 1) := by decide +kernel
theorem e_B_init_1 : decode k_B_init.2.2.1 1 = .ok (.invokespecial 3, 3) := by decide +kernel
theorem e_B_init_4 : decode k_B_init.2.2.1 4 = .ok (.aload_n 0, 1) := by decide +kernel
theorem e_B_init_5 : decode k_B_init.2.2.1 5 = .ok (.getstatic 9, 3) := by decide +kernel
theorem e_B_init_8 : decode k_B_init.2.2.1 8 = .ok (.invokevirtual 13, 3) := by decide +kernel
theorem e_B_init_11 : decode k_B_init.2.2.1 11 = .ok (.checkcast 14, 3) := by decide +kernel
theorem e_B_init_14 : decode k_B_init.2.2.1 14 = .ok (.putfield 18, 3) := by decide +kernel
theorem e_B_init_17 : decode k_B_init.2.2.1 17 = .ok (.aload_n 0, 1) := by decide +kernel
theorem e_B_init_18 : decode k_B_init.2.2.1 18 = .ok (.iconst 1, 1) := by decide +kernel
theorem e_B_init_19 : decode k_B_init.2.2.1 19 = .ok (.putfield 23, 3) := by decide +kernel
theorem e_B_init_22 : decode k_B_init.2.2.1 22 = .ok (.aload_n 0, 1) := by decide +kernel
theorem e_B_init_23 : decode k_B_init.2.2.1 23 = .ok (.iconst 0, 1) := by decide +kernel
theorem e_B_init_24 : decode k_B_init.2.2.1 24 = .ok (.putfield 27, 3) := by decide +kernel
theorem e_B_init_27 : decode k_B_init.2.2.1 27 = .ok (.aload_n 0, 1) := by decide +kernel
theorem e_B_init_28 : decode k_B_init.2.2.1 28 = .ok (.bipush 79, 2) := by decide +kernel
theorem e_B_init_30 : decode k_B_init.2.2.1 30 = .ok (.newarray .int, 2) := by decide +kernel
theorem e_B_init_32 : decode k_B_init.2.2.1 32 = .ok (.putfield 30, 3) := by decide +kernel
theorem e_B_init_35 : decode k_B_init.2.2.1 35 = .ok (.aload_n 0, 1) := by decide +kernel
theorem e_B_init_36 : decode k_B_init.2.2.1 36 = .ok (.bipush 79, 2) := by decide +kernel
theorem e_B_init_38 : decode k_B_init.2.2.1 38 = .ok (.newarray .int, 2) := by decide +kernel
theorem e_B_init_40 : decode k_B_init.2.2.1 40 = .ok (.putfield 33, 3) := by decide +kernel
theorem e_B_init_43 : decode k_B_init.2.2.1 43 = .ok (.aload_n 0, 1) := by decide +kernel
theorem e_B_init_44 : decode k_B_init.2.2.1 44 = .ok (.bipush 79, 2) := by decide +kernel
theorem e_B_init_46 : decode k_B_init.2.2.1 46 = .ok (.newarray .int, 2) := by decide +kernel
theorem e_B_init_48 : decode k_B_init.2.2.1 48 = .ok (.putfield 36, 3) := by decide +kernel
theorem e_B_init_51 : decode k_B_init.2.2.1 51 = .ok (.aload_n 0, 1) := by decide +kernel
theorem e_B_init_52 : decode k_B_init.2.2.1 52 = .ok (.bipush 79, 2) := by decide +kernel
theorem e_B_init_54 : decode k_B_init.2.2.1 54 = .ok (.newarray .int, 2) := by decide +kernel
theorem e_B_init_56 : decode k_B_init.2.2.1 56 = .ok (.putfield 39, 3) := by decide +kernel
theorem e_B_init_59 : decode k_B_init.2.2.1 59 = .ok (.aload_n 0, 1) := by decide +kernel
theorem e_B_init_60 : decode k_B_init.2.2.1 60 = .ok (.bipush 79, 2) := by decide +kernel
theorem e_B_init_62 : decode k_B_init.2.2.1 62 = .ok (.newarray .int, 2) := by decide +kernel
theorem e_B_init_64 : decode k_B_init.2.2.1 64 = .ok (.putfield 42, 3) := by decide +kernel
theorem e_B_init_67 : decode k_B_init.2.2.1 67 = .ok (.aload_n 0, 1) := by decide +kernel
theorem e_B_init_68 : decode k_B_init.2.2.1 68 = .ok (.iconst 0, 1) := by decide +kernel
theorem e_B_init_69 : decode k_B_init.2.2.1 69 = .ok (.putfield 45, 3) := by decide +kernel
theorem e_B_init_72 : decode k_B_init.2.2.1 72 = .ok (.aload_n 0, 1) := by decide +kernel
theorem e_B_init_73 : decode k_B_init.2.2.1 73 = .ok (.bipush 15, 2) := by decide +kernel
theorem e_B_init_75 : decode k_B_init.2.2.1 75 = .ok (.newarray .int, 2) := by decide +kernel
theorem e_B_init_77 : decode k_B_init.2.2.1 77 = .ok (.putfield 48, 3) := by decide +kernel
theorem e_B_init_80 : decode k_B_init.2.2.1 80 = .ok (.aload_n 0, 1) := by decide +kernel
theorem e_B_init_81 : decode k_B_init.2.2.1 81 = .ok (.iconst 0, 1) := by decide +kernel
theorem e_B_init_82 : decode k_B_init.2.2.1 82 = .ok (.putfield 51, 3) := by decide +kernel
theorem e_B_init_85 : decode k_B_init.2.2.1 85 = .ok (.aload_n 0, 1) := by decide +kernel
theorem e_B_init_86 : decode k_B_init.2.2.1 86 = .ok (.bipush 72, 2) := by decide +kernel
theorem e_B_init_88 : decode k_B_init.2.2.1 88 = .ok (.newarray .int, 2) := by decide +kernel
theorem e_B_init_90 : decode k_B_init.2.2.1 90 = .ok (.putfield 54, 3) := by decide +kernel
theorem e_B_init_93 : decode k_B_init.2.2.1 93 = .ok (.aload_n 0, 1) := by decide +kernel
theorem e_B_init_94 : decode k_B_init.2.2.1 94 = .ok (.sipush 180, 3) := by decide +kernel
theorem e_B_init_97 : decode k_B_init.2.2.1 97 = .ok (.newarray .int, 2) := by decide +kernel
theorem e_B_init_99 : decode k_B_init.2.2.1 99 = .ok (.putfield 57, 3) := by decide +kernel
theorem e_B_init_102 : decode k_B_init.2.2.1 102 = .ok (.return_, 1) := by decide +kernel
set_option maxHeartbeats 4000000 in
set_option maxRecDepth 100000 in
theorem i_B_init (l : Launch) (D : va_G) : Ini l D k_B_init 0 fsB 9 666 MdB := by
  intro b0 t0 h0 sz hb0 hbs
  refine Met.ofW (cc := k_B_init.2.2.1) (maxL := 1) (ret := none) (by decide +kernel) rfl ?_
  intro p e s m args below meth c s₁ B hml hv
  obtain ⟨rfl, hsz, hP, hK, hIK⟩ := hv
  have hx := B.exec
  have hb := B.bytes
  have hr := B.returns
  have hts : ∀ w ∈ tb, w.before [Value.ref h0].toArray s = true := fun w hw => atoms_spec (ws := wsG k_B_init) B.pre w (List.mem_cons_of_mem _ hw)
  have hown : s.vm.findClass "MixRounds$Book" = some m.cls := findClass_of_methodNamed B.named
  have hlocks := B.notSynchronized
  have hin : meth.name = "<init>" := (name_of_methodNamed B.named B.method).1
  subst hsz
  have hA : ∀ q : Nat, s.heap.size ≤ q → IA h0 s.heap.size q := fun q h => Or.inr h
  have hS : va_S (IA h0 s.heap.size) s.heap s.heap [] := va_S.rf
  have X : Ctx k_B_init p (rmI 1 9 666) s m [Value.ref h0].toArray c b0 t0 (IA h0 s.heap.size) := ⟨hx, hb, hml, hown, hts, hIK, hA, fun a h => by rcases h with rfl | h <;> omega⟩
  have hl := lv_entry ([.ref h0]) (n := 1) (Nat.le_of_ble_eq_true rfl)
  rw [lg_entry_eq]
  generalize (lg_sl ([.ref h0]) ++ List.replicate (1 - (lg_sl ([.ref h0])).length) Slot.unset).toArray = ls at hl ⊢
  have hl : lv_has ls 1 [(0, .ref h0)] := hl
  have hD : va_D (IA h0 s.heap.size) [(h0, .inr (0, [.null, .int 0, .int 0, .null, .null, .null, .null, .null, .int 0, .null, .int 0, .null, .null]))] := va_D1 (Or.inl rfl)
  have hP : va_P D vwCl [(h0, .inr (0, [.null, .int 0, .int 0, .null, .null, .null, .null, .null, .int 0, .null, .int 0, .null, .null]))] s.heap := hP
  refine lv_aload_n hx hb e_B_init_0 rfl (lv_at hl 0 rfl) ?_
  refine W.objInit hx hb hown (hts (.methodLink "MixRounds$Book" 3 Lib.objectInit) (tb_at 66 (by decide +kernel) (by decide +kernel))) (hts (.instanceMethod Lib.objectInit) (tb_at 59 (by decide +kernel) (by decide +kernel))) (hts (.code Lib.objectInit ⟨#[0xb1]⟩ 1 none) (tb_at 60 (by decide +kernel) (by decide +kernel))) rfl (by rw [hml]; exact hl.1) rfl e_B_init_1 (Nat.le_of_ble_eq_true rfl) (Nat.le_of_ble_eq_true rfl) ?_
  refine W.eq (g2 := F0 m 4 ls []) rfl ?_
  refine lv_aload_n hx hb e_B_init_4 rfl (lv_at hl 0 rfl) ?_
  refine va_getsN hx hb (hIK.1.narrow (fun q h => by rcases h with rfl | h <;> omega)) hS hown (va_Nw.use rfl (hIK.2.2.1 (.fieldLinkNest "MixRounds$Book" 9 "MixRounds" "AT_FIRST" "[I" "MixRounds") (by decide +kernel))) (fun _ h => h) e_B_init_5 ?_
  refine cl4 X e_B_init_8 (tb_at 69 (by decide +kernel) (by decide +kernel)) hl.1 (Nat.le_of_ble_eq_true rfl) (Nat.le_of_ble_eq_true rfl) (Nat.le_of_ble_eq_true rfl) (Nat.le_of_ble_eq_true rfl) hK hP hD hS (fun q8 cq8 H hK hP hD hS => ?_)
  have hP : va_P D vwCl [(h0, .inr (0, [.null, .int 0, .int 0, .null, .null, .null, .null, .null, .int 0, .null, .int 0, .null, .null])), (q8, .inl (cq8, 4, .inl told0))] H := hP
  have hD : va_D (IA h0 s.heap.size) [(h0, .inr (0, [.null, .int 0, .int 0, .null, .null, .null, .null, .null, .int 0, .null, .int 0, .null, .null])), (q8, .inl (cq8, 4, .inl told0))] := hD
  have hK : va_K D vwCl [(cq8, .int)] s := hK
  refine va_castA hx hb hown (hts (.classLink "MixRounds$Book" 14 "[I") (tb_at 75 (by decide +kernel) (by decide +kernel))) hP 1 rfl (va_nm_int (hK.2 0 _ rfl).2) e_B_init_11 ?_
  refine va_putF (D := D) (ci := 0) (v := .ref q8) (ty := .array .int) (C := RX0) (T := TX0) (N := 13) hx hb hts iw_B tyX0 tyX0_ok nmX0 hown hK hP hD hS 0 rfl rfl 0 (by decide) (hts (.fieldLink "MixRounds$Book" 18 "MixRounds$Book" "told" "[I") (tb_at 76 (by decide +kernel) (by decide +kernel))) (fun _ h9 => h9) rfl hin rfl (by decide +kernel) rfl rfl (Nat.le_of_ble_eq_true rfl) e_B_init_14 (fun H locs hP hD hS => ?_)
  have hP : va_P D vwCl [(h0, .inr (0, [.ref q8, .int 0, .int 0, .null, .null, .null, .null, .null, .int 0, .null, .int 0, .null, .null])), (q8, .inl (cq8, 4, .inl told0))] H := hP
  have hD : va_D (IA h0 s.heap.size) [(h0, .inr (0, [.ref q8, .int 0, .int 0, .null, .null, .null, .null, .null, .int 0, .null, .int 0, .null, .null])), (q8, .inl (cq8, 4, .inl told0))] := hD
  refine lv_aload_n hx hb e_B_init_17 rfl (lv_at hl 0 rfl) ?_
  refine lv_iconst (v := 1) hx hb e_B_init_18 (by decide) ?_
  refine va_put (D := D) (ci := 0) (v := .int 1) (ty := .int) (C := RX0) (T := TX0) (N := 13) hx hb hts iw_B tyX0 tyX0_ok nmX0 hown hK hP hD hS 0 rfl rfl 1 (by decide) (hts (.fieldLink "MixRounds$Book" 23 "MixRounds$Book" "draw" "I") (tb_at 78 (by decide +kernel) (by decide +kernel))) (fun _ h9 => h9) rfl (by decide +kernel) rfl rfl (Nat.le_of_ble_eq_true rfl) e_B_init_19 (fun H locs hP hD hS => ?_)
  have hP : va_P D vwCl [(h0, .inr (0, [.ref q8, .int 1, .int 0, .null, .null, .null, .null, .null, .int 0, .null, .int 0, .null, .null])), (q8, .inl (cq8, 4, .inl told0))] H := hP
  have hD : va_D (IA h0 s.heap.size) [(h0, .inr (0, [.ref q8, .int 1, .int 0, .null, .null, .null, .null, .null, .int 0, .null, .int 0, .null, .null])), (q8, .inl (cq8, 4, .inl told0))] := hD
  refine lv_aload_n hx hb e_B_init_22 rfl (lv_at hl 0 rfl) ?_
  refine lv_iconst (v := 0) hx hb e_B_init_23 (by decide) ?_
  refine va_put (D := D) (ci := 0) (v := .int 0) (ty := .int) (C := RX0) (T := TX0) (N := 13) hx hb hts iw_B tyX0 tyX0_ok nmX0 hown hK hP hD hS 0 rfl rfl 2 (by decide) (hts (.fieldLink "MixRounds$Book" 27 "MixRounds$Book" "letters" "I") (tb_at 80 (by decide +kernel) (by decide +kernel))) (fun _ h9 => h9) rfl (by decide +kernel) rfl rfl (Nat.le_of_ble_eq_true rfl) e_B_init_24 (fun H locs hP hD hS => ?_)
  have hP : va_P D vwCl [(h0, .inr (0, [.ref q8, .int 1, .int 0, .null, .null, .null, .null, .null, .int 0, .null, .int 0, .null, .null])), (q8, .inl (cq8, 4, .inl told0))] H := hP
  have hD : va_D (IA h0 s.heap.size) [(h0, .inr (0, [.ref q8, .int 1, .int 0, .null, .null, .null, .null, .null, .int 0, .null, .int 0, .null, .null])), (q8, .inl (cq8, 4, .inl told0))] := hD
  refine lv_aload_n hx hb e_B_init_27 rfl (lv_at hl 0 rfl) ?_
  refine lv_bipush (v := 79) hx hb e_B_init_28 (by decide) ?_
  refine va_newa (atype := .int) (ty := .int) (n := 79) (N' := 79) (a0 := (79, .inl (fun _ => 0))) hx hb (hts (.arrayClass .int) (tb_at 126 (by decide +kernel) (by decide +kernel))) rfl hK hP hD hS hA (fun _ => rfl) (by decide) (by decide +kernel) (Nat.le_of_ble_eq_true rfl) (Nat.le_of_ble_eq_true rfl) (Nat.le_of_ble_eq_true rfl) e_B_init_30 (fun q30 cq30 H hK hP hD hS => ?_)
  have hP : va_P D vwCl [(h0, .inr (0, [.ref q8, .int 1, .int 0, .null, .null, .null, .null, .null, .int 0, .null, .int 0, .null, .null])), (q8, .inl (cq8, 4, .inl told0)), (q30, .inl (cq30, 79, .inl (fun _ => 0)))] H := hP
  have hD : va_D (IA h0 s.heap.size) [(h0, .inr (0, [.ref q8, .int 1, .int 0, .null, .null, .null, .null, .null, .int 0, .null, .int 0, .null, .null])), (q8, .inl (cq8, 4, .inl told0)), (q30, .inl (cq30, 79, .inl (fun _ => 0)))] := hD
  have hK : va_K D vwCl [(cq8, .int), (cq30, .int)] s := hK
  refine va_putF (D := D) (ci := 0) (v := .ref q30) (ty := .array .int) (C := RX0) (T := TX0) (N := 13) hx hb hts iw_B tyX0 tyX0_ok nmX0 hown hK hP hD hS 0 rfl rfl 3 (by decide) (hts (.fieldLink "MixRounds$Book" 30 "MixRounds$Book" "senders" "[I") (tb_at 83 (by decide +kernel) (by decide +kernel))) (fun _ h9 => h9) rfl hin rfl (by decide +kernel) rfl rfl (Nat.le_of_ble_eq_true rfl) e_B_init_32 (fun H locs hP hD hS => ?_)
  have hP : va_P D vwCl [(h0, .inr (0, [.ref q8, .int 1, .int 0, .ref q30, .null, .null, .null, .null, .int 0, .null, .int 0, .null, .null])), (q8, .inl (cq8, 4, .inl told0)), (q30, .inl (cq30, 79, .inl (fun _ => 0)))] H := hP
  have hD : va_D (IA h0 s.heap.size) [(h0, .inr (0, [.ref q8, .int 1, .int 0, .ref q30, .null, .null, .null, .null, .int 0, .null, .int 0, .null, .null])), (q8, .inl (cq8, 4, .inl told0)), (q30, .inl (cq30, 79, .inl (fun _ => 0)))] := hD
  refine lv_aload_n hx hb e_B_init_35 rfl (lv_at hl 0 rfl) ?_
  refine lv_bipush (v := 79) hx hb e_B_init_36 (by decide) ?_
  refine va_newa (atype := .int) (ty := .int) (n := 79) (N' := 79) (a0 := (79, .inl (fun _ => 0))) hx hb (hts (.arrayClass .int) (tb_at 126 (by decide +kernel) (by decide +kernel))) rfl hK hP hD hS hA (fun _ => rfl) (by decide) (by decide +kernel) (Nat.le_of_ble_eq_true rfl) (Nat.le_of_ble_eq_true rfl) (Nat.le_of_ble_eq_true rfl) e_B_init_38 (fun q38 cq38 H hK hP hD hS => ?_)
  have hP : va_P D vwCl [(h0, .inr (0, [.ref q8, .int 1, .int 0, .ref q30, .null, .null, .null, .null, .int 0, .null, .int 0, .null, .null])), (q8, .inl (cq8, 4, .inl told0)), (q30, .inl (cq30, 79, .inl (fun _ => 0))), (q38, .inl (cq38, 79, .inl (fun _ => 0)))] H := hP
  have hD : va_D (IA h0 s.heap.size) [(h0, .inr (0, [.ref q8, .int 1, .int 0, .ref q30, .null, .null, .null, .null, .int 0, .null, .int 0, .null, .null])), (q8, .inl (cq8, 4, .inl told0)), (q30, .inl (cq30, 79, .inl (fun _ => 0))), (q38, .inl (cq38, 79, .inl (fun _ => 0)))] := hD
  have hK : va_K D vwCl [(cq8, .int), (cq30, .int), (cq38, .int)] s := hK
  refine va_putF (D := D) (ci := 0) (v := .ref q38) (ty := .array .int) (C := RX0) (T := TX0) (N := 13) hx hb hts iw_B tyX0 tyX0_ok nmX0 hown hK hP hD hS 0 rfl rfl 4 (by decide) (hts (.fieldLink "MixRounds$Book" 33 "MixRounds$Book" "receivers" "[I") (tb_at 84 (by decide +kernel) (by decide +kernel))) (fun _ h9 => h9) rfl hin rfl (by decide +kernel) rfl rfl (Nat.le_of_ble_eq_true rfl) e_B_init_40 (fun H locs hP hD hS => ?_)
  have hP : va_P D vwCl [(h0, .inr (0, [.ref q8, .int 1, .int 0, .ref q30, .ref q38, .null, .null, .null, .int 0, .null, .int 0, .null, .null])), (q8, .inl (cq8, 4, .inl told0)), (q30, .inl (cq30, 79, .inl (fun _ => 0))), (q38, .inl (cq38, 79, .inl (fun _ => 0)))] H := hP
  have hD : va_D (IA h0 s.heap.size) [(h0, .inr (0, [.ref q8, .int 1, .int 0, .ref q30, .ref q38, .null, .null, .null, .int 0, .null, .int 0, .null, .null])), (q8, .inl (cq8, 4, .inl told0)), (q30, .inl (cq30, 79, .inl (fun _ => 0))), (q38, .inl (cq38, 79, .inl (fun _ => 0)))] := hD
  refine lv_aload_n hx hb e_B_init_43 rfl (lv_at hl 0 rfl) ?_
  refine lv_bipush (v := 79) hx hb e_B_init_44 (by decide) ?_
  refine va_newa (atype := .int) (ty := .int) (n := 79) (N' := 79) (a0 := (79, .inl (fun _ => 0))) hx hb (hts (.arrayClass .int) (tb_at 126 (by decide +kernel) (by decide +kernel))) rfl hK hP hD hS hA (fun _ => rfl) (by decide) (by decide +kernel) (Nat.le_of_ble_eq_true rfl) (Nat.le_of_ble_eq_true rfl) (Nat.le_of_ble_eq_true rfl) e_B_init_46 (fun q46 cq46 H hK hP hD hS => ?_)
  have hP : va_P D vwCl [(h0, .inr (0, [.ref q8, .int 1, .int 0, .ref q30, .ref q38, .null, .null, .null, .int 0, .null, .int 0, .null, .null])), (q8, .inl (cq8, 4, .inl told0)), (q30, .inl (cq30, 79, .inl (fun _ => 0))), (q38, .inl (cq38, 79, .inl (fun _ => 0))), (q46, .inl (cq46, 79, .inl (fun _ => 0)))] H := hP
  have hD : va_D (IA h0 s.heap.size) [(h0, .inr (0, [.ref q8, .int 1, .int 0, .ref q30, .ref q38, .null, .null, .null, .int 0, .null, .int 0, .null, .null])), (q8, .inl (cq8, 4, .inl told0)), (q30, .inl (cq30, 79, .inl (fun _ => 0))), (q38, .inl (cq38, 79, .inl (fun _ => 0))), (q46, .inl (cq46, 79, .inl (fun _ => 0)))] := hD
  have hK : va_K D vwCl [(cq8, .int), (cq30, .int), (cq38, .int), (cq46, .int)] s := hK
  refine va_putF (D := D) (ci := 0) (v := .ref q46) (ty := .array .int) (C := RX0) (T := TX0) (N := 13) hx hb hts iw_B tyX0 tyX0_ok nmX0 hown hK hP hD hS 0 rfl rfl 5 (by decide) (hts (.fieldLink "MixRounds$Book" 36 "MixRounds$Book" "firsts" "[I") (tb_at 85 (by decide +kernel) (by decide +kernel))) (fun _ h9 => h9) rfl hin rfl (by decide +kernel) rfl rfl (Nat.le_of_ble_eq_true rfl) e_B_init_48 (fun H locs hP hD hS => ?_)
  have hP : va_P D vwCl [(h0, .inr (0, [.ref q8, .int 1, .int 0, .ref q30, .ref q38, .ref q46, .null, .null, .int 0, .null, .int 0, .null, .null])), (q8, .inl (cq8, 4, .inl told0)), (q30, .inl (cq30, 79, .inl (fun _ => 0))), (q38, .inl (cq38, 79, .inl (fun _ => 0))), (q46, .inl (cq46, 79, .inl (fun _ => 0)))] H := hP
  have hD : va_D (IA h0 s.heap.size) [(h0, .inr (0, [.ref q8, .int 1, .int 0, .ref q30, .ref q38, .ref q46, .null, .null, .int 0, .null, .int 0, .null, .null])), (q8, .inl (cq8, 4, .inl told0)), (q30, .inl (cq30, 79, .inl (fun _ => 0))), (q38, .inl (cq38, 79, .inl (fun _ => 0))), (q46, .inl (cq46, 79, .inl (fun _ => 0)))] := hD
  refine lv_aload_n hx hb e_B_init_51 rfl (lv_at hl 0 rfl) ?_
  refine lv_bipush (v := 79) hx hb e_B_init_52 (by decide) ?_
  refine va_newa (atype := .int) (ty := .int) (n := 79) (N' := 79) (a0 := (79, .inl (fun _ => 0))) hx hb (hts (.arrayClass .int) (tb_at 126 (by decide +kernel) (by decide +kernel))) rfl hK hP hD hS hA (fun _ => rfl) (by decide) (by decide +kernel) (Nat.le_of_ble_eq_true rfl) (Nat.le_of_ble_eq_true rfl) (Nat.le_of_ble_eq_true rfl) e_B_init_54 (fun q54 cq54 H hK hP hD hS => ?_)
  have hP : va_P D vwCl [(h0, .inr (0, [.ref q8, .int 1, .int 0, .ref q30, .ref q38, .ref q46, .null, .null, .int 0, .null, .int 0, .null, .null])), (q8, .inl (cq8, 4, .inl told0)), (q30, .inl (cq30, 79, .inl (fun _ => 0))), (q38, .inl (cq38, 79, .inl (fun _ => 0))), (q46, .inl (cq46, 79, .inl (fun _ => 0))), (q54, .inl (cq54, 79, .inl (fun _ => 0)))] H := hP
  have hD : va_D (IA h0 s.heap.size) [(h0, .inr (0, [.ref q8, .int 1, .int 0, .ref q30, .ref q38, .ref q46, .null, .null, .int 0, .null, .int 0, .null, .null])), (q8, .inl (cq8, 4, .inl told0)), (q30, .inl (cq30, 79, .inl (fun _ => 0))), (q38, .inl (cq38, 79, .inl (fun _ => 0))), (q46, .inl (cq46, 79, .inl (fun _ => 0))), (q54, .inl (cq54, 79, .inl (fun _ => 0)))] := hD
  have hK : va_K D vwCl [(cq8, .int), (cq30, .int), (cq38, .int), (cq46, .int), (cq54, .int)] s := hK
  refine va_putF (D := D) (ci := 0) (v := .ref q54) (ty := .array .int) (C := RX0) (T := TX0) (N := 13) hx hb hts iw_B tyX0 tyX0_ok nmX0 hown hK hP hD hS 0 rfl rfl 6 (by decide) (hts (.fieldLink "MixRounds$Book" 39 "MixRounds$Book" "wentRounds" "[I") (tb_at 86 (by decide +kernel) (by decide +kernel))) (fun _ h9 => h9) rfl hin rfl (by decide +kernel) rfl rfl (Nat.le_of_ble_eq_true rfl) e_B_init_56 (fun H locs hP hD hS => ?_)
  have hP : va_P D vwCl [(h0, .inr (0, [.ref q8, .int 1, .int 0, .ref q30, .ref q38, .ref q46, .ref q54, .null, .int 0, .null, .int 0, .null, .null])), (q8, .inl (cq8, 4, .inl told0)), (q30, .inl (cq30, 79, .inl (fun _ => 0))), (q38, .inl (cq38, 79, .inl (fun _ => 0))), (q46, .inl (cq46, 79, .inl (fun _ => 0))), (q54, .inl (cq54, 79, .inl (fun _ => 0)))] H := hP
  have hD : va_D (IA h0 s.heap.size) [(h0, .inr (0, [.ref q8, .int 1, .int 0, .ref q30, .ref q38, .ref q46, .ref q54, .null, .int 0, .null, .int 0, .null, .null])), (q8, .inl (cq8, 4, .inl told0)), (q30, .inl (cq30, 79, .inl (fun _ => 0))), (q38, .inl (cq38, 79, .inl (fun _ => 0))), (q46, .inl (cq46, 79, .inl (fun _ => 0))), (q54, .inl (cq54, 79, .inl (fun _ => 0)))] := hD
  refine lv_aload_n hx hb e_B_init_59 rfl (lv_at hl 0 rfl) ?_
  refine lv_bipush (v := 79) hx hb e_B_init_60 (by decide) ?_
  refine va_newa (atype := .int) (ty := .int) (n := 79) (N' := 79) (a0 := (79, .inl (fun _ => 0))) hx hb (hts (.arrayClass .int) (tb_at 126 (by decide +kernel) (by decide +kernel))) rfl hK hP hD hS hA (fun _ => rfl) (by decide) (by decide +kernel) (Nat.le_of_ble_eq_true rfl) (Nat.le_of_ble_eq_true rfl) (Nat.le_of_ble_eq_true rfl) e_B_init_62 (fun q62 cq62 H hK hP hD hS => ?_)
  have hP : va_P D vwCl [(h0, .inr (0, [.ref q8, .int 1, .int 0, .ref q30, .ref q38, .ref q46, .ref q54, .null, .int 0, .null, .int 0, .null, .null])), (q8, .inl (cq8, 4, .inl told0)), (q30, .inl (cq30, 79, .inl (fun _ => 0))), (q38, .inl (cq38, 79, .inl (fun _ => 0))), (q46, .inl (cq46, 79, .inl (fun _ => 0))), (q54, .inl (cq54, 79, .inl (fun _ => 0))), (q62, .inl (cq62, 79, .inl (fun _ => 0)))] H := hP
  have hD : va_D (IA h0 s.heap.size) [(h0, .inr (0, [.ref q8, .int 1, .int 0, .ref q30, .ref q38, .ref q46, .ref q54, .null, .int 0, .null, .int 0, .null, .null])), (q8, .inl (cq8, 4, .inl told0)), (q30, .inl (cq30, 79, .inl (fun _ => 0))), (q38, .inl (cq38, 79, .inl (fun _ => 0))), (q46, .inl (cq46, 79, .inl (fun _ => 0))), (q54, .inl (cq54, 79, .inl (fun _ => 0))), (q62, .inl (cq62, 79, .inl (fun _ => 0)))] := hD
  have hK : va_K D vwCl [(cq8, .int), (cq30, .int), (cq38, .int), (cq46, .int), (cq54, .int), (cq62, .int)] s := hK
  refine va_putF (D := D) (ci := 0) (v := .ref q62) (ty := .array .int) (C := RX0) (T := TX0) (N := 13) hx hb hts iw_B tyX0 tyX0_ok nmX0 hown hK hP hD hS 0 rfl rfl 7 (by decide) (hts (.fieldLink "MixRounds$Book" 42 "MixRounds$Book" "wentPlaces" "[I") (tb_at 88 (by decide +kernel) (by decide +kernel))) (fun _ h9 => h9) rfl hin rfl (by decide +kernel) rfl rfl (Nat.le_of_ble_eq_true rfl) e_B_init_64 (fun H locs hP hD hS => ?_)
  have hP : va_P D vwCl [(h0, .inr (0, [.ref q8, .int 1, .int 0, .ref q30, .ref q38, .ref q46, .ref q54, .ref q62, .int 0, .null, .int 0, .null, .null])), (q8, .inl (cq8, 4, .inl told0)), (q30, .inl (cq30, 79, .inl (fun _ => 0))), (q38, .inl (cq38, 79, .inl (fun _ => 0))), (q46, .inl (cq46, 79, .inl (fun _ => 0))), (q54, .inl (cq54, 79, .inl (fun _ => 0))), (q62, .inl (cq62, 79, .inl (fun _ => 0)))] H := hP
  have hD : va_D (IA h0 s.heap.size) [(h0, .inr (0, [.ref q8, .int 1, .int 0, .ref q30, .ref q38, .ref q46, .ref q54, .ref q62, .int 0, .null, .int 0, .null, .null])), (q8, .inl (cq8, 4, .inl told0)), (q30, .inl (cq30, 79, .inl (fun _ => 0))), (q38, .inl (cq38, 79, .inl (fun _ => 0))), (q46, .inl (cq46, 79, .inl (fun _ => 0))), (q54, .inl (cq54, 79, .inl (fun _ => 0))), (q62, .inl (cq62, 79, .inl (fun _ => 0)))] := hD
  refine lv_aload_n hx hb e_B_init_67 rfl (lv_at hl 0 rfl) ?_
  refine lv_iconst (v := 0) hx hb e_B_init_68 (by decide) ?_
  refine va_put (D := D) (ci := 0) (v := .int 0) (ty := .int) (C := RX0) (T := TX0) (N := 13) hx hb hts iw_B tyX0 tyX0_ok nmX0 hown hK hP hD hS 0 rfl rfl 8 (by decide) (hts (.fieldLink "MixRounds$Book" 45 "MixRounds$Book" "waiting" "I") (tb_at 90 (by decide +kernel) (by decide +kernel))) (fun _ h9 => h9) rfl (by decide +kernel) rfl rfl (Nat.le_of_ble_eq_true rfl) e_B_init_69 (fun H locs hP hD hS => ?_)
  have hP : va_P D vwCl [(h0, .inr (0, [.ref q8, .int 1, .int 0, .ref q30, .ref q38, .ref q46, .ref q54, .ref q62, .int 0, .null, .int 0, .null, .null])), (q8, .inl (cq8, 4, .inl told0)), (q30, .inl (cq30, 79, .inl (fun _ => 0))), (q38, .inl (cq38, 79, .inl (fun _ => 0))), (q46, .inl (cq46, 79, .inl (fun _ => 0))), (q54, .inl (cq54, 79, .inl (fun _ => 0))), (q62, .inl (cq62, 79, .inl (fun _ => 0)))] H := hP
  have hD : va_D (IA h0 s.heap.size) [(h0, .inr (0, [.ref q8, .int 1, .int 0, .ref q30, .ref q38, .ref q46, .ref q54, .ref q62, .int 0, .null, .int 0, .null, .null])), (q8, .inl (cq8, 4, .inl told0)), (q30, .inl (cq30, 79, .inl (fun _ => 0))), (q38, .inl (cq38, 79, .inl (fun _ => 0))), (q46, .inl (cq46, 79, .inl (fun _ => 0))), (q54, .inl (cq54, 79, .inl (fun _ => 0))), (q62, .inl (cq62, 79, .inl (fun _ => 0)))] := hD
  refine lv_aload_n hx hb e_B_init_72 rfl (lv_at hl 0 rfl) ?_
  refine lv_bipush (v := 15) hx hb e_B_init_73 (by decide) ?_
  refine va_newa (atype := .int) (ty := .int) (n := 15) (N' := 15) (a0 := (15, .inl (fun _ => 0))) hx hb (hts (.arrayClass .int) (tb_at 126 (by decide +kernel) (by decide +kernel))) rfl hK hP hD hS hA (fun _ => rfl) (by decide) (by decide +kernel) (Nat.le_of_ble_eq_true rfl) (Nat.le_of_ble_eq_true rfl) (Nat.le_of_ble_eq_true rfl) e_B_init_75 (fun q75 cq75 H hK hP hD hS => ?_)
  have hP : va_P D vwCl [(h0, .inr (0, [.ref q8, .int 1, .int 0, .ref q30, .ref q38, .ref q46, .ref q54, .ref q62, .int 0, .null, .int 0, .null, .null])), (q8, .inl (cq8, 4, .inl told0)), (q30, .inl (cq30, 79, .inl (fun _ => 0))), (q38, .inl (cq38, 79, .inl (fun _ => 0))), (q46, .inl (cq46, 79, .inl (fun _ => 0))), (q54, .inl (cq54, 79, .inl (fun _ => 0))), (q62, .inl (cq62, 79, .inl (fun _ => 0))), (q75, .inl (cq75, 15, .inl (fun _ => 0)))] H := hP
  have hD : va_D (IA h0 s.heap.size) [(h0, .inr (0, [.ref q8, .int 1, .int 0, .ref q30, .ref q38, .ref q46, .ref q54, .ref q62, .int 0, .null, .int 0, .null, .null])), (q8, .inl (cq8, 4, .inl told0)), (q30, .inl (cq30, 79, .inl (fun _ => 0))), (q38, .inl (cq38, 79, .inl (fun _ => 0))), (q46, .inl (cq46, 79, .inl (fun _ => 0))), (q54, .inl (cq54, 79, .inl (fun _ => 0))), (q62, .inl (cq62, 79, .inl (fun _ => 0))), (q75, .inl (cq75, 15, .inl (fun _ => 0)))] := hD
  have hK : va_K D vwCl [(cq8, .int), (cq30, .int), (cq38, .int), (cq46, .int), (cq54, .int), (cq62, .int), (cq75, .int)] s := hK
  refine va_putF (D := D) (ci := 0) (v := .ref q75) (ty := .array .int) (C := RX0) (T := TX0) (N := 13) hx hb hts iw_B tyX0 tyX0_ok nmX0 hown hK hP hD hS 0 rfl rfl 9 (by decide) (hts (.fieldLink "MixRounds$Book" 48 "MixRounds$Book" "waiters" "[I") (tb_at 92 (by decide +kernel) (by decide +kernel))) (fun _ h9 => h9) rfl hin rfl (by decide +kernel) rfl rfl (Nat.le_of_ble_eq_true rfl) e_B_init_77 (fun H locs hP hD hS => ?_)
  have hP : va_P D vwCl [(h0, .inr (0, [.ref q8, .int 1, .int 0, .ref q30, .ref q38, .ref q46, .ref q54, .ref q62, .int 0, .ref q75, .int 0, .null, .null])), (q8, .inl (cq8, 4, .inl told0)), (q30, .inl (cq30, 79, .inl (fun _ => 0))), (q38, .inl (cq38, 79, .inl (fun _ => 0))), (q46, .inl (cq46, 79, .inl (fun _ => 0))), (q54, .inl (cq54, 79, .inl (fun _ => 0))), (q62, .inl (cq62, 79, .inl (fun _ => 0))), (q75, .inl (cq75, 15, .inl (fun _ => 0)))] H := hP
  have hD : va_D (IA h0 s.heap.size) [(h0, .inr (0, [.ref q8, .int 1, .int 0, .ref q30, .ref q38, .ref q46, .ref q54, .ref q62, .int 0, .ref q75, .int 0, .null, .null])), (q8, .inl (cq8, 4, .inl told0)), (q30, .inl (cq30, 79, .inl (fun _ => 0))), (q38, .inl (cq38, 79, .inl (fun _ => 0))), (q46, .inl (cq46, 79, .inl (fun _ => 0))), (q54, .inl (cq54, 79, .inl (fun _ => 0))), (q62, .inl (cq62, 79, .inl (fun _ => 0))), (q75, .inl (cq75, 15, .inl (fun _ => 0)))] := hD
  refine lv_aload_n hx hb e_B_init_80 rfl (lv_at hl 0 rfl) ?_
  refine lv_iconst (v := 0) hx hb e_B_init_81 (by decide) ?_
  refine va_put (D := D) (ci := 0) (v := .int 0) (ty := .int) (C := RX0) (T := TX0) (N := 13) hx hb hts iw_B tyX0 tyX0_ok nmX0 hown hK hP hD hS 0 rfl rfl 10 (by decide) (hts (.fieldLink "MixRounds$Book" 51 "MixRounds$Book" "rounds" "I") (tb_at 94 (by decide +kernel) (by decide +kernel))) (fun _ h9 => h9) rfl (by decide +kernel) rfl rfl (Nat.le_of_ble_eq_true rfl) e_B_init_82 (fun H locs hP hD hS => ?_)
  have hP : va_P D vwCl [(h0, .inr (0, [.ref q8, .int 1, .int 0, .ref q30, .ref q38, .ref q46, .ref q54, .ref q62, .int 0, .ref q75, .int 0, .null, .null])), (q8, .inl (cq8, 4, .inl told0)), (q30, .inl (cq30, 79, .inl (fun _ => 0))), (q38, .inl (cq38, 79, .inl (fun _ => 0))), (q46, .inl (cq46, 79, .inl (fun _ => 0))), (q54, .inl (cq54, 79, .inl (fun _ => 0))), (q62, .inl (cq62, 79, .inl (fun _ => 0))), (q75, .inl (cq75, 15, .inl (fun _ => 0)))] H := hP
  have hD : va_D (IA h0 s.heap.size) [(h0, .inr (0, [.ref q8, .int 1, .int 0, .ref q30, .ref q38, .ref q46, .ref q54, .ref q62, .int 0, .ref q75, .int 0, .null, .null])), (q8, .inl (cq8, 4, .inl told0)), (q30, .inl (cq30, 79, .inl (fun _ => 0))), (q38, .inl (cq38, 79, .inl (fun _ => 0))), (q46, .inl (cq46, 79, .inl (fun _ => 0))), (q54, .inl (cq54, 79, .inl (fun _ => 0))), (q62, .inl (cq62, 79, .inl (fun _ => 0))), (q75, .inl (cq75, 15, .inl (fun _ => 0)))] := hD
  refine lv_aload_n hx hb e_B_init_85 rfl (lv_at hl 0 rfl) ?_
  refine lv_bipush (v := 72) hx hb e_B_init_86 (by decide) ?_
  refine va_newa (atype := .int) (ty := .int) (n := 72) (N' := 72) (a0 := (72, .inl (fun _ => 0))) hx hb (hts (.arrayClass .int) (tb_at 126 (by decide +kernel) (by decide +kernel))) rfl hK hP hD hS hA (fun _ => rfl) (by decide) (by decide +kernel) (Nat.le_of_ble_eq_true rfl) (Nat.le_of_ble_eq_true rfl) (Nat.le_of_ble_eq_true rfl) e_B_init_88 (fun q88 cq88 H hK hP hD hS => ?_)
  have hP : va_P D vwCl [(h0, .inr (0, [.ref q8, .int 1, .int 0, .ref q30, .ref q38, .ref q46, .ref q54, .ref q62, .int 0, .ref q75, .int 0, .null, .null])), (q8, .inl (cq8, 4, .inl told0)), (q30, .inl (cq30, 79, .inl (fun _ => 0))), (q38, .inl (cq38, 79, .inl (fun _ => 0))), (q46, .inl (cq46, 79, .inl (fun _ => 0))), (q54, .inl (cq54, 79, .inl (fun _ => 0))), (q62, .inl (cq62, 79, .inl (fun _ => 0))), (q75, .inl (cq75, 15, .inl (fun _ => 0))), (q88, .inl (cq88, 72, .inl (fun _ => 0)))] H := hP
  have hD : va_D (IA h0 s.heap.size) [(h0, .inr (0, [.ref q8, .int 1, .int 0, .ref q30, .ref q38, .ref q46, .ref q54, .ref q62, .int 0, .ref q75, .int 0, .null, .null])), (q8, .inl (cq8, 4, .inl told0)), (q30, .inl (cq30, 79, .inl (fun _ => 0))), (q38, .inl (cq38, 79, .inl (fun _ => 0))), (q46, .inl (cq46, 79, .inl (fun _ => 0))), (q54, .inl (cq54, 79, .inl (fun _ => 0))), (q62, .inl (cq62, 79, .inl (fun _ => 0))), (q75, .inl (cq75, 15, .inl (fun _ => 0))), (q88, .inl (cq88, 72, .inl (fun _ => 0)))] := hD
  have hK : va_K D vwCl [(cq8, .int), (cq30, .int), (cq38, .int), (cq46, .int), (cq54, .int), (cq62, .int), (cq75, .int), (cq88, .int)] s := hK
  refine va_putF (D := D) (ci := 0) (v := .ref q88) (ty := .array .int) (C := RX0) (T := TX0) (N := 13) hx hb hts iw_B tyX0 tyX0_ok nmX0 hown hK hP hD hS 0 rfl rfl 11 (by decide) (hts (.fieldLink "MixRounds$Book" 54 "MixRounds$Book" "facts" "[I") (tb_at 97 (by decide +kernel) (by decide +kernel))) (fun _ h9 => h9) rfl hin rfl (by decide +kernel) rfl rfl (Nat.le_of_ble_eq_true rfl) e_B_init_90 (fun H locs hP hD hS => ?_)
  have hP : va_P D vwCl [(h0, .inr (0, [.ref q8, .int 1, .int 0, .ref q30, .ref q38, .ref q46, .ref q54, .ref q62, .int 0, .ref q75, .int 0, .ref q88, .null])), (q8, .inl (cq8, 4, .inl told0)), (q30, .inl (cq30, 79, .inl (fun _ => 0))), (q38, .inl (cq38, 79, .inl (fun _ => 0))), (q46, .inl (cq46, 79, .inl (fun _ => 0))), (q54, .inl (cq54, 79, .inl (fun _ => 0))), (q62, .inl (cq62, 79, .inl (fun _ => 0))), (q75, .inl (cq75, 15, .inl (fun _ => 0))), (q88, .inl (cq88, 72, .inl (fun _ => 0)))] H := hP
  have hD : va_D (IA h0 s.heap.size) [(h0, .inr (0, [.ref q8, .int 1, .int 0, .ref q30, .ref q38, .ref q46, .ref q54, .ref q62, .int 0, .ref q75, .int 0, .ref q88, .null])), (q8, .inl (cq8, 4, .inl told0)), (q30, .inl (cq30, 79, .inl (fun _ => 0))), (q38, .inl (cq38, 79, .inl (fun _ => 0))), (q46, .inl (cq46, 79, .inl (fun _ => 0))), (q54, .inl (cq54, 79, .inl (fun _ => 0))), (q62, .inl (cq62, 79, .inl (fun _ => 0))), (q75, .inl (cq75, 15, .inl (fun _ => 0))), (q88, .inl (cq88, 72, .inl (fun _ => 0)))] := hD
  refine lv_aload_n hx hb e_B_init_93 rfl (lv_at hl 0 rfl) ?_
  refine lv_sipush (v := 180) hx hb e_B_init_94 (by decide) ?_
  refine va_newa (atype := .int) (ty := .int) (n := 180) (N' := 180) (a0 := (180, .inl (fun _ => 0))) hx hb (hts (.arrayClass .int) (tb_at 126 (by decide +kernel) (by decide +kernel))) rfl hK hP hD hS hA (fun _ => rfl) (by decide) (by decide +kernel) (Nat.le_of_ble_eq_true rfl) (Nat.le_of_ble_eq_true rfl) (Nat.le_of_ble_eq_true rfl) e_B_init_97 (fun q97 cq97 H hK hP hD hS => ?_)
  have hP : va_P D vwCl [(h0, .inr (0, [.ref q8, .int 1, .int 0, .ref q30, .ref q38, .ref q46, .ref q54, .ref q62, .int 0, .ref q75, .int 0, .ref q88, .null])), (q8, .inl (cq8, 4, .inl told0)), (q30, .inl (cq30, 79, .inl (fun _ => 0))), (q38, .inl (cq38, 79, .inl (fun _ => 0))), (q46, .inl (cq46, 79, .inl (fun _ => 0))), (q54, .inl (cq54, 79, .inl (fun _ => 0))), (q62, .inl (cq62, 79, .inl (fun _ => 0))), (q75, .inl (cq75, 15, .inl (fun _ => 0))), (q88, .inl (cq88, 72, .inl (fun _ => 0))), (q97, .inl (cq97, 180, .inl (fun _ => 0)))] H := hP
  have hD : va_D (IA h0 s.heap.size) [(h0, .inr (0, [.ref q8, .int 1, .int 0, .ref q30, .ref q38, .ref q46, .ref q54, .ref q62, .int 0, .ref q75, .int 0, .ref q88, .null])), (q8, .inl (cq8, 4, .inl told0)), (q30, .inl (cq30, 79, .inl (fun _ => 0))), (q38, .inl (cq38, 79, .inl (fun _ => 0))), (q46, .inl (cq46, 79, .inl (fun _ => 0))), (q54, .inl (cq54, 79, .inl (fun _ => 0))), (q62, .inl (cq62, 79, .inl (fun _ => 0))), (q75, .inl (cq75, 15, .inl (fun _ => 0))), (q88, .inl (cq88, 72, .inl (fun _ => 0))), (q97, .inl (cq97, 180, .inl (fun _ => 0)))] := hD
  have hK : va_K D vwCl [(cq8, .int), (cq30, .int), (cq38, .int), (cq46, .int), (cq54, .int), (cq62, .int), (cq75, .int), (cq88, .int), (cq97, .int)] s := hK
  refine va_putF (D := D) (ci := 0) (v := .ref q97) (ty := .array .int) (C := RX0) (T := TX0) (N := 13) hx hb hts iw_B tyX0 tyX0_ok nmX0 hown hK hP hD hS 0 rfl rfl 12 (by decide) (hts (.fieldLink "MixRounds$Book" 57 "MixRounds$Book" "outs" "[I") (tb_at 98 (by decide +kernel) (by decide +kernel))) (fun _ h9 => h9) rfl hin rfl (by decide +kernel) rfl rfl (Nat.le_of_ble_eq_true rfl) e_B_init_99 (fun H locs hP hD hS => ?_)
  have hP : va_P D vwCl [(h0, .inr (0, [.ref q8, .int 1, .int 0, .ref q30, .ref q38, .ref q46, .ref q54, .ref q62, .int 0, .ref q75, .int 0, .ref q88, .ref q97])), (q8, .inl (cq8, 4, .inl told0)), (q30, .inl (cq30, 79, .inl (fun _ => 0))), (q38, .inl (cq38, 79, .inl (fun _ => 0))), (q46, .inl (cq46, 79, .inl (fun _ => 0))), (q54, .inl (cq54, 79, .inl (fun _ => 0))), (q62, .inl (cq62, 79, .inl (fun _ => 0))), (q75, .inl (cq75, 15, .inl (fun _ => 0))), (q88, .inl (cq88, 72, .inl (fun _ => 0))), (q97, .inl (cq97, 180, .inl (fun _ => 0)))] H := hP
  have hD : va_D (IA h0 s.heap.size) [(h0, .inr (0, [.ref q8, .int 1, .int 0, .ref q30, .ref q38, .ref q46, .ref q54, .ref q62, .int 0, .ref q75, .int 0, .ref q88, .ref q97])), (q8, .inl (cq8, 4, .inl told0)), (q30, .inl (cq30, 79, .inl (fun _ => 0))), (q38, .inl (cq38, 79, .inl (fun _ => 0))), (q46, .inl (cq46, 79, .inl (fun _ => 0))), (q54, .inl (cq54, 79, .inl (fun _ => 0))), (q62, .inl (cq62, 79, .inl (fun _ => 0))), (q75, .inl (cq75, 15, .inl (fun _ => 0))), (q88, .inl (cq88, 72, .inl (fun _ => 0))), (q97, .inl (cq97, 180, .inl (fun _ => 0)))] := hD
  refine W.widen (k := 9) (n := 666) (Nat.le_of_ble_eq_true rfl) (Nat.le_of_ble_eq_true rfl) ?_
  exact W.vret hx hb hr (fun t ht hW => ⟨⟨(), rfl, trivial, [(h0, .inr (0, [.ref q8, .int 1, .int 0, .ref q30, .ref q38, .ref q46, .ref q54, .ref q62, .int 0, .ref q75, .int 0, .ref q88, .ref q97])), (q8, .inl (cq8, 4, .inl told0)), (q30, .inl (cq30, 79, .inl (fun _ => 0))), (q38, .inl (cq38, 79, .inl (fun _ => 0))), (q46, .inl (cq46, 79, .inl (fun _ => 0))), (q54, .inl (cq54, 79, .inl (fun _ => 0))), (q62, .inl (cq62, 79, .inl (fun _ => 0))), (q75, .inl (cq75, 15, .inl (fun _ => 0))), (q88, .inl (cq88, 72, .inl (fun _ => 0))), (q97, .inl (cq97, 180, .inl (fun _ => 0)))], [(cq8, .int), (cq30, .int), (cq38, .int), (cq46, .int), (cq54, .int), (cq62, .int), (cq75, .int), (cq88, .int), (cq97, .int)], ⟨fun j => match j with | 0 => h0 | 1 => q8 | 4 => q30 | 5 => q38 | 6 => q46 | 7 => q54 | 8 => q62 | 10 => q75 | 12 => q88 | 13 => q97 | _ => 0, fun j => match j with | 0 => cq8 | 3 => cq30 | 4 => cq38 | 5 => cq46 | 6 => cq54 | 7 => cq62 | 9 => cq75 | 11 => cq88 | 12 => cq97 | _ => cq8, rfl, rfl, rfl⟩, by rw [ht]; exact hP, va_K.moved hW.alike hK, hD⟩, hS.F ht⟩) hS.2.2 e_B_init_102
def wM (r : Nat → Nat) (k : Nat → ClassId) : va_W := [(r 0, .inr (5, [.ref (r 1), .ref (r 2), .ref (r 3), .ref (r 4), .int 0, .int 0, .int 0, .ref (r 8), .int 0, .ref (r 10), .ref (r 11), .int (-1), .ref (r 13), .ref (r 14), .ref (r 15), .ref (r 16)])), (r 1, .inl (k 0, 402, .inl (upd (upd (upd (fun _ => 0) 1 3) 2 1) 4 1))), (r 2, .inl (k 1, 12, .inl (fun _ => 0))), (r 3, .inl (k 2, 12, .inl (fun _ => 0))), (r 4, .inl (k 3, 90, .inl (fun _ => 0))), (r 8, .inl (k 7, 2412, .inl (fun _ => 0))), (r 10, .inl (k 9, 402, .inl (fun _ => 0))), (r 11, .inl (k 10, 2412, .inl (fun _ => 0))), (r 13, .inl (k 12, 4, .inl (upd (upd (upd (upd (fun _ => 0) 0 (-1)) 1 (-1)) 2 (-1)) 3 (-1)))), (r 14, .inl (k 13, 4, .inl (fun _ => 0))), (r 15, .inl (k 14, 96, .inr (.inl (fun _ => 0)))), (r 16, .inl (k 15, 24, .inr (.inl (fun _ => 0))))]
def tM (k : Nat → ClassId) : List (ClassId × FieldType) := [(k 0, .int), (k 1, .int), (k 2, .int), (k 3, .int), (k 7, .int), (k 9, .int), (k 10, .int), (k 12, .int), (k 13, .int), (k 14, .long), (k 15, .long)]
def MdM : Nat → va_W → List (ClassId × FieldType) → Prop := fun h0 w ty => ∃ (r : Nat → Nat) (k : Nat → ClassId), r 0 = h0 ∧ w = wM r k ∧ ty = tM k
def fsM : List Value := [.null, .null, .null, .null, .int 0, .int 0, .int 0, .null, .int 0, .null, .null, .int 0, .null, .null, .null, .null]
theorem e_M_init_0 : decode k_M_init.2.2.1 0 = .ok (.aload_n 0, 1) := by decide +kernel
theorem e_M_init_1 : decode k_M_init.2.2.1 1 = .ok (.invokespecial 1, 3) := by decide +kernel
theorem e_M_init_4 : decode k_M_init.2.2.1 4 = .ok (.aload_n 0, 1) := by decide +kernel
theorem e_M_init_5 : decode k_M_init.2.2.1 5 = .ok (.sipush 402, 3) := by decide +kernel
theorem e_M_init_8 : decode k_M_init.2.2.1 8 = .ok (.newarray .int, 2) := by decide +kernel
theorem e_M_init_10 : decode k_M_init.2.2.1 10 = .ok (.putfield 7, 3) := by decide +kernel
theorem e_M_init_13 : decode k_M_init.2.2.1 13 = .ok (.aload_n 0, 1) := by decide +kernel
theorem e_M_init_14 : decode k_M_init.2.2.1 14 = .ok (.bipush 12, 2) := by decide +kernel
theorem e_M_init_16 : decode k_M_init.2.2.1 16 = .ok (.newarray .int, 2) := by decide +kernel
theorem e_M_init_18 : decode k_M_init.2.2.1 18 = .ok (.putfield 13, 3) := by decide +kernel
theorem e_M_init_21 : decode k_M_init.2.2.1 21 = .ok (.aload_n 0, 1) := by decide +kernel
theorem e_M_init_22 : decode k_M_init.2.2.1 22 = .ok (.bipush 12, 2) := by decide +kernel
theorem e_M_init_24 : decode k_M_init.2.2.1 24 = .ok (.newarray .int, 2) := by decide +kernel
theorem e_M_init_26 : decode k_M_init.2.2.1 26 = .ok (.putfield 16, 3) := by decide +kernel
theorem e_M_init_29 : decode k_M_init.2.2.1 29 = .ok (.aload_n 0, 1) := by decide +kernel
theorem e_M_init_30 : decode k_M_init.2.2.1 30 = .ok (.bipush 90, 2) := by decide +kernel
theorem e_M_init_32 : decode k_M_init.2.2.1 32 = .ok (.newarray .int, 2) := by decide +kernel
theorem e_M_init_34 : decode k_M_init.2.2.1 34 = .ok (.putfield 19, 3) := by decide +kernel
theorem e_M_init_37 : decode k_M_init.2.2.1 37 = .ok (.aload_n 0, 1) := by decide +kernel
theorem e_M_init_38 : decode k_M_init.2.2.1 38 = .ok (.sipush 2412, 3) := by decide +kernel
theorem e_M_init_41 : decode k_M_init.2.2.1 41 = .ok (.newarray .int, 2) := by decide +kernel
theorem e_M_init_43 : decode k_M_init.2.2.1 43 = .ok (.putfield 22, 3) := by decide +kernel
theorem e_M_init_46 : decode k_M_init.2.2.1 46 = .ok (.aload_n 0, 1) := by decide +kernel
theorem e_M_init_47 : decode k_M_init.2.2.1 47 = .ok (.sipush 402, 3) := by decide +kernel
theorem e_M_init_50 : decode k_M_init.2.2.1 50 = .ok (.newarray .int, 2) := by decide +kernel
theorem e_M_init_52 : decode k_M_init.2.2.1 52 = .ok (.putfield 25, 3) := by decide +kernel
theorem e_M_init_55 : decode k_M_init.2.2.1 55 = .ok (.aload_n 0, 1) := by decide +kernel
theorem e_M_init_56 : decode k_M_init.2.2.1 56 = .ok (.sipush 2412, 3) := by decide +kernel
theorem e_M_init_59 : decode k_M_init.2.2.1 59 = .ok (.newarray .int, 2) := by decide +kernel
theorem e_M_init_61 : decode k_M_init.2.2.1 61 = .ok (.putfield 28, 3) := by decide +kernel
theorem e_M_init_64 : decode k_M_init.2.2.1 64 = .ok (.aload_n 0, 1) := by decide +kernel
theorem e_M_init_65 : decode k_M_init.2.2.1 65 = .ok (.iconst (-1), 1) := by decide +kernel
theorem e_M_init_66 : decode k_M_init.2.2.1 66 = .ok (.putfield 31, 3) := by decide +kernel
theorem e_M_init_69 : decode k_M_init.2.2.1 69 = .ok (.aload_n 0, 1) := by decide +kernel
theorem e_M_init_70 : decode k_M_init.2.2.1 70 = .ok (.iconst 4, 1) := by decide +kernel
theorem e_M_init_71 : decode k_M_init.2.2.1 71 = .ok (.newarray .int, 2) := by decide +kernel
theorem e_M_init_73 : decode k_M_init.2.2.1 73 = .ok (.putfield 35, 3) := by decide +kernel
theorem e_M_init_76 : decode k_M_init.2.2.1 76 = .ok (.aload_n 0, 1) := by decide +kernel
theorem e_M_init_77 : decode k_M_init.2.2.1 77 = .ok (.iconst 4, 1) := by decide +kernel
theorem e_M_init_78 : decode k_M_init.2.2.1 78 = .ok (.newarray .int, 2) := by decide +kernel
theorem e_M_init_80 : decode k_M_init.2.2.1 80 = .ok (.putfield 38, 3) := by decide +kernel
theorem e_M_init_83 : decode k_M_init.2.2.1 83 = .ok (.aload_n 0, 1) := by decide +kernel
theorem e_M_init_84 : decode k_M_init.2.2.1 84 = .ok (.bipush 96, 2) := by decide +kernel
theorem e_M_init_86 : decode k_M_init.2.2.1 86 = .ok (.newarray .long, 2) := by decide +kernel
theorem e_M_init_88 : decode k_M_init.2.2.1 88 = .ok (.putfield 41, 3) := by decide +kernel
theorem e_M_init_91 : decode k_M_init.2.2.1 91 = .ok (.aload_n 0, 1) := by decide +kernel
theorem e_M_init_92 : decode k_M_init.2.2.1 92 = .ok (.bipush 24, 2) := by decide +kernel
theorem e_M_init_94 : decode k_M_init.2.2.1 94 = .ok (.newarray .long, 2) := by decide +kernel
theorem e_M_init_96 : decode k_M_init.2.2.1 96 = .ok (.putfield 45, 3) := by decide +kernel
theorem e_M_init_99 : decode k_M_init.2.2.1 99 = .ok (.aload_n 0, 1) := by decide +kernel
theorem e_M_init_100 : decode k_M_init.2.2.1 100 = .ok (.getfield 7, 3) := by decide +kernel
theorem e_M_init_103 : decode k_M_init.2.2.1 103 = .ok (.iconst 1, 1) := by decide +kernel
theorem e_M_init_104 : decode k_M_init.2.2.1 104 = .ok (.iconst 3, 1) := by decide +kernel
theorem e_M_init_105 : decode k_M_init.2.2.1 105 = .ok (.iastore, 1) := by decide +kernel
theorem e_M_init_106 : decode k_M_init.2.2.1 106 = .ok (.aload_n 0, 1) := by decide +kernel
theorem e_M_init_107 : decode k_M_init.2.2.1 107 = .ok (.getfield 7, 3) := by decide +kernel
theorem e_M_init_110 : decode k_M_init.2.2.1 110 = .ok (.iconst 2, 1) := by decide +kernel
theorem e_M_init_111 : decode k_M_init.2.2.1 111 = .ok (.iconst 1, 1) := by decide +kernel
theorem e_M_init_112 : decode k_M_init.2.2.1 112 = .ok (.iastore, 1) := by decide +kernel
theorem e_M_init_113 : decode k_M_init.2.2.1 113 = .ok (.aload_n 0, 1) := by decide +kernel
theorem e_M_init_114 : decode k_M_init.2.2.1 114 = .ok (.getfield 7, 3) := by decide +kernel
theorem e_M_init_117 : decode k_M_init.2.2.1 117 = .ok (.iconst 4, 1) := by decide +kernel
theorem e_M_init_118 : decode k_M_init.2.2.1 118 = .ok (.iconst 1, 1) := by decide +kernel
theorem e_M_init_119 : decode k_M_init.2.2.1 119 = .ok (.iastore, 1) := by decide +kernel
theorem e_M_init_120 : decode k_M_init.2.2.1 120 = .ok (.iconst 0, 1) := by decide +kernel
theorem e_M_init_121 : decode k_M_init.2.2.1 121 = .ok (.istore_n 1, 1) := by decide +kernel
theorem e_M_init_122 : decode k_M_init.2.2.1 122 = .ok (.iload_n 1, 1) := by decide +kernel
theorem e_M_init_123 : decode k_M_init.2.2.1 123 = .ok (.iconst 4, 1) := by decide +kernel
theorem e_M_init_124 : decode k_M_init.2.2.1 124 = .ok (.if_icmp .ge 16, 3) := by decide +kernel
theorem e_M_init_127 : decode k_M_init.2.2.1 127 = .ok (.aload_n 0, 1) := by decide +kernel
theorem e_M_init_128 : decode k_M_init.2.2.1 128 = .ok (.getfield 35, 3) := by decide +kernel
theorem e_M_init_131 : decode k_M_init.2.2.1 131 = .ok (.iload_n 1, 1) := by decide +kernel
theorem e_M_init_132 : decode k_M_init.2.2.1 132 = .ok (.iconst (-1), 1) := by decide +kernel
theorem e_M_init_133 : decode k_M_init.2.2.1 133 = .ok (.iastore, 1) := by decide +kernel
theorem e_M_init_134 : decode k_M_init.2.2.1 134 = .ok (.iinc 1 1, 3) := by decide +kernel
theorem e_M_init_137 : decode k_M_init.2.2.1 137 = .ok (.goto (-15), 3) := by decide +kernel
theorem e_M_init_140 : decode k_M_init.2.2.1 140 = .ok (.return_, 1) := by decide +kernel
set_option maxHeartbeats 4000000 in
set_option maxRecDepth 100000 in
theorem i_M_init (l : Launch) (D : va_G) : Ini l D k_M_init 5 fsM 11 5870 MdM := by
  intro b0 t0 h0 sz hb0 hbs
  refine Met.ofW (cc := k_M_init.2.2.1) (maxL := 2) (ret := none) (by decide +kernel) rfl ?_
  intro p e s m args below meth c s₁ B hml hv
  obtain ⟨rfl, hsz, hP, hK, hIK⟩ := hv
  have hx := B.exec
  have hb := B.bytes
  have hr := B.returns
  have hts : ∀ w ∈ tb, w.before [Value.ref h0].toArray s = true := fun w hw => atoms_spec (ws := wsG k_M_init) B.pre w (List.mem_cons_of_mem _ hw)
  have hown : s.vm.findClass "MixRoundsModel" = some m.cls := findClass_of_methodNamed B.named
  have hlocks := B.notSynchronized
  have hin : meth.name = "<init>" := (name_of_methodNamed B.named B.method).1
  subst hsz
  have hA : ∀ q : Nat, s.heap.size ≤ q → IA h0 s.heap.size q := fun q h => Or.inr h
  have hS : va_S (IA h0 s.heap.size) s.heap s.heap [] := va_S.rf
  have X : Ctx k_M_init p (rmI 1 11 5870) s m [Value.ref h0].toArray c b0 t0 (IA h0 s.heap.size) := ⟨hx, hb, hml, hown, hts, hIK, hA, fun a h => by rcases h with rfl | h <;> omega⟩
  have hl := lv_entry ([.ref h0]) (n := 2) (Nat.le_of_ble_eq_true rfl)
  rw [lg_entry_eq]
  generalize (lg_sl ([.ref h0]) ++ List.replicate (2 - (lg_sl ([.ref h0])).length) Slot.unset).toArray = ls at hl ⊢
  have hl : lv_has ls 2 [(0, .ref h0)] := hl
  have hD : va_D (IA h0 s.heap.size) [(h0, .inr (5, [.null, .null, .null, .null, .int 0, .int 0, .int 0, .null, .int 0, .null, .null, .int 0, .null, .null, .null, .null]))] := va_D1 (Or.inl rfl)
  have hP : va_P D vwCl [(h0, .inr (5, [.null, .null, .null, .null, .int 0, .int 0, .int 0, .null, .int 0, .null, .null, .int 0, .null, .null, .null, .null]))] s.heap := hP
  refine lv_aload_n hx hb e_M_init_0 rfl (lv_at hl 0 rfl) ?_
  refine W.objInit hx hb hown (hts (.methodLink "MixRoundsModel" 1 Lib.objectInit) (tb_at 596 (by decide +kernel) (by decide +kernel))) (hts (.instanceMethod Lib.objectInit) (tb_at 59 (by decide +kernel) (by decide +kernel))) (hts (.code Lib.objectInit ⟨#[0xb1]⟩ 1 none) (tb_at 60 (by decide +kernel) (by decide +kernel))) rfl (by rw [hml]; exact hl.1) rfl e_M_init_1 (Nat.le_of_ble_eq_true rfl) (Nat.le_of_ble_eq_true rfl) ?_
  refine W.eq (g2 := F0 m 4 ls []) rfl ?_
  refine lv_aload_n hx hb e_M_init_4 rfl (lv_at hl 0 rfl) ?_
  refine lv_sipush (v := 402) hx hb e_M_init_5 (by decide) ?_
  refine va_newa (atype := .int) (ty := .int) (n := 402) (N' := 402) (a0 := (402, .inl (fun _ => 0))) hx hb (hts (.arrayClass .int) (tb_at 126 (by decide +kernel) (by decide +kernel))) rfl hK hP hD hS hA (fun _ => rfl) (by decide) (by decide +kernel) (Nat.le_of_ble_eq_true rfl) (Nat.le_of_ble_eq_true rfl) (Nat.le_of_ble_eq_true rfl) e_M_init_8 (fun q8 cq8 H hK hP hD hS => ?_)
  have hP : va_P D vwCl [(h0, .inr (5, [.null, .null, .null, .null, .int 0, .int 0, .int 0, .null, .int 0, .null, .null, .int 0, .null, .null, .null, .null])), (q8, .inl (cq8, 402, .inl (fun _ => 0)))] H := hP
  have hD : va_D (IA h0 s.heap.size) [(h0, .inr (5, [.null, .null, .null, .null, .int 0, .int 0, .int 0, .null, .int 0, .null, .null, .int 0, .null, .null, .null, .null])), (q8, .inl (cq8, 402, .inl (fun _ => 0)))] := hD
  have hK : va_K D vwCl [(cq8, .int)] s := hK
  refine va_putF (D := D) (ci := 5) (v := .ref q8) (ty := .array .int) (C := RX6) (T := TX6) (N := 16) hx hb hts iw_M tyX6 tyX6_ok nmX6 hown hK hP hD hS 0 rfl rfl 0 (by decide) (hts (.fieldLink "MixRoundsModel" 7 "MixRoundsModel" "now" "[I") (tb_at 597 (by decide +kernel) (by decide +kernel))) (fun _ h9 => h9) rfl hin rfl (by decide +kernel) rfl rfl (Nat.le_of_ble_eq_true rfl) e_M_init_10 (fun H locs hP hD hS => ?_)
  have hP : va_P D vwCl [(h0, .inr (5, [.ref q8, .null, .null, .null, .int 0, .int 0, .int 0, .null, .int 0, .null, .null, .int 0, .null, .null, .null, .null])), (q8, .inl (cq8, 402, .inl (fun _ => 0)))] H := hP
  have hD : va_D (IA h0 s.heap.size) [(h0, .inr (5, [.ref q8, .null, .null, .null, .int 0, .int 0, .int 0, .null, .int 0, .null, .null, .int 0, .null, .null, .null, .null])), (q8, .inl (cq8, 402, .inl (fun _ => 0)))] := hD
  refine lv_aload_n hx hb e_M_init_13 rfl (lv_at hl 0 rfl) ?_
  refine lv_bipush (v := 12) hx hb e_M_init_14 (by decide) ?_
  refine va_newa (atype := .int) (ty := .int) (n := 12) (N' := 12) (a0 := (12, .inl (fun _ => 0))) hx hb (hts (.arrayClass .int) (tb_at 126 (by decide +kernel) (by decide +kernel))) rfl hK hP hD hS hA (fun _ => rfl) (by decide) (by decide +kernel) (Nat.le_of_ble_eq_true rfl) (Nat.le_of_ble_eq_true rfl) (Nat.le_of_ble_eq_true rfl) e_M_init_16 (fun q16 cq16 H hK hP hD hS => ?_)
  have hP : va_P D vwCl [(h0, .inr (5, [.ref q8, .null, .null, .null, .int 0, .int 0, .int 0, .null, .int 0, .null, .null, .int 0, .null, .null, .null, .null])), (q8, .inl (cq8, 402, .inl (fun _ => 0))), (q16, .inl (cq16, 12, .inl (fun _ => 0)))] H := hP
  have hD : va_D (IA h0 s.heap.size) [(h0, .inr (5, [.ref q8, .null, .null, .null, .int 0, .int 0, .int 0, .null, .int 0, .null, .null, .int 0, .null, .null, .null, .null])), (q8, .inl (cq8, 402, .inl (fun _ => 0))), (q16, .inl (cq16, 12, .inl (fun _ => 0)))] := hD
  have hK : va_K D vwCl [(cq8, .int), (cq16, .int)] s := hK
  refine va_putF (D := D) (ci := 5) (v := .ref q16) (ty := .array .int) (C := RX6) (T := TX6) (N := 16) hx hb hts iw_M tyX6 tyX6_ok nmX6 hown hK hP hD hS 0 rfl rfl 1 (by decide) (hts (.fieldLink "MixRoundsModel" 13 "MixRoundsModel" "had" "[I") (tb_at 598 (by decide +kernel) (by decide +kernel))) (fun _ h9 => h9) rfl hin rfl (by decide +kernel) rfl rfl (Nat.le_of_ble_eq_true rfl) e_M_init_18 (fun H locs hP hD hS => ?_)
  have hP : va_P D vwCl [(h0, .inr (5, [.ref q8, .ref q16, .null, .null, .int 0, .int 0, .int 0, .null, .int 0, .null, .null, .int 0, .null, .null, .null, .null])), (q8, .inl (cq8, 402, .inl (fun _ => 0))), (q16, .inl (cq16, 12, .inl (fun _ => 0)))] H := hP
  have hD : va_D (IA h0 s.heap.size) [(h0, .inr (5, [.ref q8, .ref q16, .null, .null, .int 0, .int 0, .int 0, .null, .int 0, .null, .null, .int 0, .null, .null, .null, .null])), (q8, .inl (cq8, 402, .inl (fun _ => 0))), (q16, .inl (cq16, 12, .inl (fun _ => 0)))] := hD
  refine lv_aload_n hx hb e_M_init_21 rfl (lv_at hl 0 rfl) ?_
  refine lv_bipush (v := 12) hx hb e_M_init_22 (by decide) ?_
  refine va_newa (atype := .int) (ty := .int) (n := 12) (N' := 12) (a0 := (12, .inl (fun _ => 0))) hx hb (hts (.arrayClass .int) (tb_at 126 (by decide +kernel) (by decide +kernel))) rfl hK hP hD hS hA (fun _ => rfl) (by decide) (by decide +kernel) (Nat.le_of_ble_eq_true rfl) (Nat.le_of_ble_eq_true rfl) (Nat.le_of_ble_eq_true rfl) e_M_init_24 (fun q24 cq24 H hK hP hD hS => ?_)
  have hP : va_P D vwCl [(h0, .inr (5, [.ref q8, .ref q16, .null, .null, .int 0, .int 0, .int 0, .null, .int 0, .null, .null, .int 0, .null, .null, .null, .null])), (q8, .inl (cq8, 402, .inl (fun _ => 0))), (q16, .inl (cq16, 12, .inl (fun _ => 0))), (q24, .inl (cq24, 12, .inl (fun _ => 0)))] H := hP
  have hD : va_D (IA h0 s.heap.size) [(h0, .inr (5, [.ref q8, .ref q16, .null, .null, .int 0, .int 0, .int 0, .null, .int 0, .null, .null, .int 0, .null, .null, .null, .null])), (q8, .inl (cq8, 402, .inl (fun _ => 0))), (q16, .inl (cq16, 12, .inl (fun _ => 0))), (q24, .inl (cq24, 12, .inl (fun _ => 0)))] := hD
  have hK : va_K D vwCl [(cq8, .int), (cq16, .int), (cq24, .int)] s := hK
  refine va_putF (D := D) (ci := 5) (v := .ref q24) (ty := .array .int) (C := RX6) (T := TX6) (N := 16) hx hb hts iw_M tyX6 tyX6_ok nmX6 hown hK hP hD hS 0 rfl rfl 2 (by decide) (hts (.fieldLink "MixRoundsModel" 16 "MixRoundsModel" "lost" "[I") (tb_at 599 (by decide +kernel) (by decide +kernel))) (fun _ h9 => h9) rfl hin rfl (by decide +kernel) rfl rfl (Nat.le_of_ble_eq_true rfl) e_M_init_26 (fun H locs hP hD hS => ?_)
  have hP : va_P D vwCl [(h0, .inr (5, [.ref q8, .ref q16, .ref q24, .null, .int 0, .int 0, .int 0, .null, .int 0, .null, .null, .int 0, .null, .null, .null, .null])), (q8, .inl (cq8, 402, .inl (fun _ => 0))), (q16, .inl (cq16, 12, .inl (fun _ => 0))), (q24, .inl (cq24, 12, .inl (fun _ => 0)))] H := hP
  have hD : va_D (IA h0 s.heap.size) [(h0, .inr (5, [.ref q8, .ref q16, .ref q24, .null, .int 0, .int 0, .int 0, .null, .int 0, .null, .null, .int 0, .null, .null, .null, .null])), (q8, .inl (cq8, 402, .inl (fun _ => 0))), (q16, .inl (cq16, 12, .inl (fun _ => 0))), (q24, .inl (cq24, 12, .inl (fun _ => 0)))] := hD
  refine lv_aload_n hx hb e_M_init_29 rfl (lv_at hl 0 rfl) ?_
  refine lv_bipush (v := 90) hx hb e_M_init_30 (by decide) ?_
  refine va_newa (atype := .int) (ty := .int) (n := 90) (N' := 90) (a0 := (90, .inl (fun _ => 0))) hx hb (hts (.arrayClass .int) (tb_at 126 (by decide +kernel) (by decide +kernel))) rfl hK hP hD hS hA (fun _ => rfl) (by decide) (by decide +kernel) (Nat.le_of_ble_eq_true rfl) (Nat.le_of_ble_eq_true rfl) (Nat.le_of_ble_eq_true rfl) e_M_init_32 (fun q32 cq32 H hK hP hD hS => ?_)
  have hP : va_P D vwCl [(h0, .inr (5, [.ref q8, .ref q16, .ref q24, .null, .int 0, .int 0, .int 0, .null, .int 0, .null, .null, .int 0, .null, .null, .null, .null])), (q8, .inl (cq8, 402, .inl (fun _ => 0))), (q16, .inl (cq16, 12, .inl (fun _ => 0))), (q24, .inl (cq24, 12, .inl (fun _ => 0))), (q32, .inl (cq32, 90, .inl (fun _ => 0)))] H := hP
  have hD : va_D (IA h0 s.heap.size) [(h0, .inr (5, [.ref q8, .ref q16, .ref q24, .null, .int 0, .int 0, .int 0, .null, .int 0, .null, .null, .int 0, .null, .null, .null, .null])), (q8, .inl (cq8, 402, .inl (fun _ => 0))), (q16, .inl (cq16, 12, .inl (fun _ => 0))), (q24, .inl (cq24, 12, .inl (fun _ => 0))), (q32, .inl (cq32, 90, .inl (fun _ => 0)))] := hD
  have hK : va_K D vwCl [(cq8, .int), (cq16, .int), (cq24, .int), (cq32, .int)] s := hK
  refine va_putF (D := D) (ci := 5) (v := .ref q32) (ty := .array .int) (C := RX6) (T := TX6) (N := 16) hx hb hts iw_M tyX6 tyX6_ok nmX6 hown hK hP hD hS 0 rfl rfl 3 (by decide) (hts (.fieldLink "MixRoundsModel" 19 "MixRoundsModel" "tape" "[I") (tb_at 600 (by decide +kernel) (by decide +kernel))) (fun _ h9 => h9) rfl hin rfl (by decide +kernel) rfl rfl (Nat.le_of_ble_eq_true rfl) e_M_init_34 (fun H locs hP hD hS => ?_)
  have hP : va_P D vwCl [(h0, .inr (5, [.ref q8, .ref q16, .ref q24, .ref q32, .int 0, .int 0, .int 0, .null, .int 0, .null, .null, .int 0, .null, .null, .null, .null])), (q8, .inl (cq8, 402, .inl (fun _ => 0))), (q16, .inl (cq16, 12, .inl (fun _ => 0))), (q24, .inl (cq24, 12, .inl (fun _ => 0))), (q32, .inl (cq32, 90, .inl (fun _ => 0)))] H := hP
  have hD : va_D (IA h0 s.heap.size) [(h0, .inr (5, [.ref q8, .ref q16, .ref q24, .ref q32, .int 0, .int 0, .int 0, .null, .int 0, .null, .null, .int 0, .null, .null, .null, .null])), (q8, .inl (cq8, 402, .inl (fun _ => 0))), (q16, .inl (cq16, 12, .inl (fun _ => 0))), (q24, .inl (cq24, 12, .inl (fun _ => 0))), (q32, .inl (cq32, 90, .inl (fun _ => 0)))] := hD
  refine lv_aload_n hx hb e_M_init_37 rfl (lv_at hl 0 rfl) ?_
  refine lv_sipush (v := 2412) hx hb e_M_init_38 (by decide) ?_
  refine va_newa (atype := .int) (ty := .int) (n := 2412) (N' := 2412) (a0 := (2412, .inl (fun _ => 0))) hx hb (hts (.arrayClass .int) (tb_at 126 (by decide +kernel) (by decide +kernel))) rfl hK hP hD hS hA (fun _ => rfl) (by decide) (by decide +kernel) (Nat.le_of_ble_eq_true rfl) (Nat.le_of_ble_eq_true rfl) (Nat.le_of_ble_eq_true rfl) e_M_init_41 (fun q41 cq41 H hK hP hD hS => ?_)
  have hP : va_P D vwCl [(h0, .inr (5, [.ref q8, .ref q16, .ref q24, .ref q32, .int 0, .int 0, .int 0, .null, .int 0, .null, .null, .int 0, .null, .null, .null, .null])), (q8, .inl (cq8, 402, .inl (fun _ => 0))), (q16, .inl (cq16, 12, .inl (fun _ => 0))), (q24, .inl (cq24, 12, .inl (fun _ => 0))), (q32, .inl (cq32, 90, .inl (fun _ => 0))), (q41, .inl (cq41, 2412, .inl (fun _ => 0)))] H := hP
  have hD : va_D (IA h0 s.heap.size) [(h0, .inr (5, [.ref q8, .ref q16, .ref q24, .ref q32, .int 0, .int 0, .int 0, .null, .int 0, .null, .null, .int 0, .null, .null, .null, .null])), (q8, .inl (cq8, 402, .inl (fun _ => 0))), (q16, .inl (cq16, 12, .inl (fun _ => 0))), (q24, .inl (cq24, 12, .inl (fun _ => 0))), (q32, .inl (cq32, 90, .inl (fun _ => 0))), (q41, .inl (cq41, 2412, .inl (fun _ => 0)))] := hD
  have hK : va_K D vwCl [(cq8, .int), (cq16, .int), (cq24, .int), (cq32, .int), (cq41, .int)] s := hK
  refine va_putF (D := D) (ci := 5) (v := .ref q41) (ty := .array .int) (C := RX6) (T := TX6) (N := 16) hx hb hts iw_M tyX6 tyX6_ok nmX6 hown hK hP hD hS 0 rfl rfl 7 (by decide) (hts (.fieldLink "MixRoundsModel" 22 "MixRoundsModel" "ahead" "[I") (tb_at 604 (by decide +kernel) (by decide +kernel))) (fun _ h9 => h9) rfl hin rfl (by decide +kernel) rfl rfl (Nat.le_of_ble_eq_true rfl) e_M_init_43 (fun H locs hP hD hS => ?_)
  have hP : va_P D vwCl [(h0, .inr (5, [.ref q8, .ref q16, .ref q24, .ref q32, .int 0, .int 0, .int 0, .ref q41, .int 0, .null, .null, .int 0, .null, .null, .null, .null])), (q8, .inl (cq8, 402, .inl (fun _ => 0))), (q16, .inl (cq16, 12, .inl (fun _ => 0))), (q24, .inl (cq24, 12, .inl (fun _ => 0))), (q32, .inl (cq32, 90, .inl (fun _ => 0))), (q41, .inl (cq41, 2412, .inl (fun _ => 0)))] H := hP
  have hD : va_D (IA h0 s.heap.size) [(h0, .inr (5, [.ref q8, .ref q16, .ref q24, .ref q32, .int 0, .int 0, .int 0, .ref q41, .int 0, .null, .null, .int 0, .null, .null, .null, .null])), (q8, .inl (cq8, 402, .inl (fun _ => 0))), (q16, .inl (cq16, 12, .inl (fun _ => 0))), (q24, .inl (cq24, 12, .inl (fun _ => 0))), (q32, .inl (cq32, 90, .inl (fun _ => 0))), (q41, .inl (cq41, 2412, .inl (fun _ => 0)))] := hD
  refine lv_aload_n hx hb e_M_init_46 rfl (lv_at hl 0 rfl) ?_
  refine lv_sipush (v := 402) hx hb e_M_init_47 (by decide) ?_
  refine va_newa (atype := .int) (ty := .int) (n := 402) (N' := 402) (a0 := (402, .inl (fun _ => 0))) hx hb (hts (.arrayClass .int) (tb_at 126 (by decide +kernel) (by decide +kernel))) rfl hK hP hD hS hA (fun _ => rfl) (by decide) (by decide +kernel) (Nat.le_of_ble_eq_true rfl) (Nat.le_of_ble_eq_true rfl) (Nat.le_of_ble_eq_true rfl) e_M_init_50 (fun q50 cq50 H hK hP hD hS => ?_)
  have hP : va_P D vwCl [(h0, .inr (5, [.ref q8, .ref q16, .ref q24, .ref q32, .int 0, .int 0, .int 0, .ref q41, .int 0, .null, .null, .int 0, .null, .null, .null, .null])), (q8, .inl (cq8, 402, .inl (fun _ => 0))), (q16, .inl (cq16, 12, .inl (fun _ => 0))), (q24, .inl (cq24, 12, .inl (fun _ => 0))), (q32, .inl (cq32, 90, .inl (fun _ => 0))), (q41, .inl (cq41, 2412, .inl (fun _ => 0))), (q50, .inl (cq50, 402, .inl (fun _ => 0)))] H := hP
  have hD : va_D (IA h0 s.heap.size) [(h0, .inr (5, [.ref q8, .ref q16, .ref q24, .ref q32, .int 0, .int 0, .int 0, .ref q41, .int 0, .null, .null, .int 0, .null, .null, .null, .null])), (q8, .inl (cq8, 402, .inl (fun _ => 0))), (q16, .inl (cq16, 12, .inl (fun _ => 0))), (q24, .inl (cq24, 12, .inl (fun _ => 0))), (q32, .inl (cq32, 90, .inl (fun _ => 0))), (q41, .inl (cq41, 2412, .inl (fun _ => 0))), (q50, .inl (cq50, 402, .inl (fun _ => 0)))] := hD
  have hK : va_K D vwCl [(cq8, .int), (cq16, .int), (cq24, .int), (cq32, .int), (cq41, .int), (cq50, .int)] s := hK
  refine va_putF (D := D) (ci := 5) (v := .ref q50) (ty := .array .int) (C := RX6) (T := TX6) (N := 16) hx hb hts iw_M tyX6 tyX6_ok nmX6 hown hK hP hD hS 0 rfl rfl 9 (by decide) (hts (.fieldLink "MixRoundsModel" 25 "MixRoundsModel" "kept" "[I") (tb_at 606 (by decide +kernel) (by decide +kernel))) (fun _ h9 => h9) rfl hin rfl (by decide +kernel) rfl rfl (Nat.le_of_ble_eq_true rfl) e_M_init_52 (fun H locs hP hD hS => ?_)
  have hP : va_P D vwCl [(h0, .inr (5, [.ref q8, .ref q16, .ref q24, .ref q32, .int 0, .int 0, .int 0, .ref q41, .int 0, .ref q50, .null, .int 0, .null, .null, .null, .null])), (q8, .inl (cq8, 402, .inl (fun _ => 0))), (q16, .inl (cq16, 12, .inl (fun _ => 0))), (q24, .inl (cq24, 12, .inl (fun _ => 0))), (q32, .inl (cq32, 90, .inl (fun _ => 0))), (q41, .inl (cq41, 2412, .inl (fun _ => 0))), (q50, .inl (cq50, 402, .inl (fun _ => 0)))] H := hP
  have hD : va_D (IA h0 s.heap.size) [(h0, .inr (5, [.ref q8, .ref q16, .ref q24, .ref q32, .int 0, .int 0, .int 0, .ref q41, .int 0, .ref q50, .null, .int 0, .null, .null, .null, .null])), (q8, .inl (cq8, 402, .inl (fun _ => 0))), (q16, .inl (cq16, 12, .inl (fun _ => 0))), (q24, .inl (cq24, 12, .inl (fun _ => 0))), (q32, .inl (cq32, 90, .inl (fun _ => 0))), (q41, .inl (cq41, 2412, .inl (fun _ => 0))), (q50, .inl (cq50, 402, .inl (fun _ => 0)))] := hD
  refine lv_aload_n hx hb e_M_init_55 rfl (lv_at hl 0 rfl) ?_
  refine lv_sipush (v := 2412) hx hb e_M_init_56 (by decide) ?_
  refine va_newa (atype := .int) (ty := .int) (n := 2412) (N' := 2412) (a0 := (2412, .inl (fun _ => 0))) hx hb (hts (.arrayClass .int) (tb_at 126 (by decide +kernel) (by decide +kernel))) rfl hK hP hD hS hA (fun _ => rfl) (by decide) (by decide +kernel) (Nat.le_of_ble_eq_true rfl) (Nat.le_of_ble_eq_true rfl) (Nat.le_of_ble_eq_true rfl) e_M_init_59 (fun q59 cq59 H hK hP hD hS => ?_)
  have hP : va_P D vwCl [(h0, .inr (5, [.ref q8, .ref q16, .ref q24, .ref q32, .int 0, .int 0, .int 0, .ref q41, .int 0, .ref q50, .null, .int 0, .null, .null, .null, .null])), (q8, .inl (cq8, 402, .inl (fun _ => 0))), (q16, .inl (cq16, 12, .inl (fun _ => 0))), (q24, .inl (cq24, 12, .inl (fun _ => 0))), (q32, .inl (cq32, 90, .inl (fun _ => 0))), (q41, .inl (cq41, 2412, .inl (fun _ => 0))), (q50, .inl (cq50, 402, .inl (fun _ => 0))), (q59, .inl (cq59, 2412, .inl (fun _ => 0)))] H := hP
  have hD : va_D (IA h0 s.heap.size) [(h0, .inr (5, [.ref q8, .ref q16, .ref q24, .ref q32, .int 0, .int 0, .int 0, .ref q41, .int 0, .ref q50, .null, .int 0, .null, .null, .null, .null])), (q8, .inl (cq8, 402, .inl (fun _ => 0))), (q16, .inl (cq16, 12, .inl (fun _ => 0))), (q24, .inl (cq24, 12, .inl (fun _ => 0))), (q32, .inl (cq32, 90, .inl (fun _ => 0))), (q41, .inl (cq41, 2412, .inl (fun _ => 0))), (q50, .inl (cq50, 402, .inl (fun _ => 0))), (q59, .inl (cq59, 2412, .inl (fun _ => 0)))] := hD
  have hK : va_K D vwCl [(cq8, .int), (cq16, .int), (cq24, .int), (cq32, .int), (cq41, .int), (cq50, .int), (cq59, .int)] s := hK
  refine va_putF (D := D) (ci := 5) (v := .ref q59) (ty := .array .int) (C := RX6) (T := TX6) (N := 16) hx hb hts iw_M tyX6 tyX6_ok nmX6 hown hK hP hD hS 0 rfl rfl 10 (by decide) (hts (.fieldLink "MixRoundsModel" 28 "MixRoundsModel" "keptAhead" "[I") (tb_at 607 (by decide +kernel) (by decide +kernel))) (fun _ h9 => h9) rfl hin rfl (by decide +kernel) rfl rfl (Nat.le_of_ble_eq_true rfl) e_M_init_61 (fun H locs hP hD hS => ?_)
  have hP : va_P D vwCl [(h0, .inr (5, [.ref q8, .ref q16, .ref q24, .ref q32, .int 0, .int 0, .int 0, .ref q41, .int 0, .ref q50, .ref q59, .int 0, .null, .null, .null, .null])), (q8, .inl (cq8, 402, .inl (fun _ => 0))), (q16, .inl (cq16, 12, .inl (fun _ => 0))), (q24, .inl (cq24, 12, .inl (fun _ => 0))), (q32, .inl (cq32, 90, .inl (fun _ => 0))), (q41, .inl (cq41, 2412, .inl (fun _ => 0))), (q50, .inl (cq50, 402, .inl (fun _ => 0))), (q59, .inl (cq59, 2412, .inl (fun _ => 0)))] H := hP
  have hD : va_D (IA h0 s.heap.size) [(h0, .inr (5, [.ref q8, .ref q16, .ref q24, .ref q32, .int 0, .int 0, .int 0, .ref q41, .int 0, .ref q50, .ref q59, .int 0, .null, .null, .null, .null])), (q8, .inl (cq8, 402, .inl (fun _ => 0))), (q16, .inl (cq16, 12, .inl (fun _ => 0))), (q24, .inl (cq24, 12, .inl (fun _ => 0))), (q32, .inl (cq32, 90, .inl (fun _ => 0))), (q41, .inl (cq41, 2412, .inl (fun _ => 0))), (q50, .inl (cq50, 402, .inl (fun _ => 0))), (q59, .inl (cq59, 2412, .inl (fun _ => 0)))] := hD
  refine lv_aload_n hx hb e_M_init_64 rfl (lv_at hl 0 rfl) ?_
  refine lv_iconst (v := (-1)) hx hb e_M_init_65 (by decide) ?_
  refine va_put (D := D) (ci := 5) (v := .int (-1)) (ty := .int) (C := RX6) (T := TX6) (N := 16) hx hb hts iw_M tyX6 tyX6_ok nmX6 hown hK hP hD hS 0 rfl rfl 11 (by decide) (hts (.fieldLink "MixRoundsModel" 31 "MixRoundsModel" "keptUndos" "I") (tb_at 608 (by decide +kernel) (by decide +kernel))) (fun _ h9 => h9) rfl (by decide +kernel) rfl rfl (Nat.le_of_ble_eq_true rfl) e_M_init_66 (fun H locs hP hD hS => ?_)
  have hP : va_P D vwCl [(h0, .inr (5, [.ref q8, .ref q16, .ref q24, .ref q32, .int 0, .int 0, .int 0, .ref q41, .int 0, .ref q50, .ref q59, .int (-1), .null, .null, .null, .null])), (q8, .inl (cq8, 402, .inl (fun _ => 0))), (q16, .inl (cq16, 12, .inl (fun _ => 0))), (q24, .inl (cq24, 12, .inl (fun _ => 0))), (q32, .inl (cq32, 90, .inl (fun _ => 0))), (q41, .inl (cq41, 2412, .inl (fun _ => 0))), (q50, .inl (cq50, 402, .inl (fun _ => 0))), (q59, .inl (cq59, 2412, .inl (fun _ => 0)))] H := hP
  have hD : va_D (IA h0 s.heap.size) [(h0, .inr (5, [.ref q8, .ref q16, .ref q24, .ref q32, .int 0, .int 0, .int 0, .ref q41, .int 0, .ref q50, .ref q59, .int (-1), .null, .null, .null, .null])), (q8, .inl (cq8, 402, .inl (fun _ => 0))), (q16, .inl (cq16, 12, .inl (fun _ => 0))), (q24, .inl (cq24, 12, .inl (fun _ => 0))), (q32, .inl (cq32, 90, .inl (fun _ => 0))), (q41, .inl (cq41, 2412, .inl (fun _ => 0))), (q50, .inl (cq50, 402, .inl (fun _ => 0))), (q59, .inl (cq59, 2412, .inl (fun _ => 0)))] := hD
  refine lv_aload_n hx hb e_M_init_69 rfl (lv_at hl 0 rfl) ?_
  refine lv_iconst (v := 4) hx hb e_M_init_70 (by decide) ?_
  refine va_newa (atype := .int) (ty := .int) (n := 4) (N' := 4) (a0 := (4, .inl (fun _ => 0))) hx hb (hts (.arrayClass .int) (tb_at 126 (by decide +kernel) (by decide +kernel))) rfl hK hP hD hS hA (fun _ => rfl) (by decide) (by decide +kernel) (Nat.le_of_ble_eq_true rfl) (Nat.le_of_ble_eq_true rfl) (Nat.le_of_ble_eq_true rfl) e_M_init_71 (fun q71 cq71 H hK hP hD hS => ?_)
  have hP : va_P D vwCl [(h0, .inr (5, [.ref q8, .ref q16, .ref q24, .ref q32, .int 0, .int 0, .int 0, .ref q41, .int 0, .ref q50, .ref q59, .int (-1), .null, .null, .null, .null])), (q8, .inl (cq8, 402, .inl (fun _ => 0))), (q16, .inl (cq16, 12, .inl (fun _ => 0))), (q24, .inl (cq24, 12, .inl (fun _ => 0))), (q32, .inl (cq32, 90, .inl (fun _ => 0))), (q41, .inl (cq41, 2412, .inl (fun _ => 0))), (q50, .inl (cq50, 402, .inl (fun _ => 0))), (q59, .inl (cq59, 2412, .inl (fun _ => 0))), (q71, .inl (cq71, 4, .inl (fun _ => 0)))] H := hP
  have hD : va_D (IA h0 s.heap.size) [(h0, .inr (5, [.ref q8, .ref q16, .ref q24, .ref q32, .int 0, .int 0, .int 0, .ref q41, .int 0, .ref q50, .ref q59, .int (-1), .null, .null, .null, .null])), (q8, .inl (cq8, 402, .inl (fun _ => 0))), (q16, .inl (cq16, 12, .inl (fun _ => 0))), (q24, .inl (cq24, 12, .inl (fun _ => 0))), (q32, .inl (cq32, 90, .inl (fun _ => 0))), (q41, .inl (cq41, 2412, .inl (fun _ => 0))), (q50, .inl (cq50, 402, .inl (fun _ => 0))), (q59, .inl (cq59, 2412, .inl (fun _ => 0))), (q71, .inl (cq71, 4, .inl (fun _ => 0)))] := hD
  have hK : va_K D vwCl [(cq8, .int), (cq16, .int), (cq24, .int), (cq32, .int), (cq41, .int), (cq50, .int), (cq59, .int), (cq71, .int)] s := hK
  refine va_putF (D := D) (ci := 5) (v := .ref q71) (ty := .array .int) (C := RX6) (T := TX6) (N := 16) hx hb hts iw_M tyX6 tyX6_ok nmX6 hown hK hP hD hS 0 rfl rfl 12 (by decide) (hts (.fieldLink "MixRoundsModel" 35 "MixRoundsModel" "lanes" "[I") (tb_at 609 (by decide +kernel) (by decide +kernel))) (fun _ h9 => h9) rfl hin rfl (by decide +kernel) rfl rfl (Nat.le_of_ble_eq_true rfl) e_M_init_73 (fun H locs hP hD hS => ?_)
  have hP : va_P D vwCl [(h0, .inr (5, [.ref q8, .ref q16, .ref q24, .ref q32, .int 0, .int 0, .int 0, .ref q41, .int 0, .ref q50, .ref q59, .int (-1), .ref q71, .null, .null, .null])), (q8, .inl (cq8, 402, .inl (fun _ => 0))), (q16, .inl (cq16, 12, .inl (fun _ => 0))), (q24, .inl (cq24, 12, .inl (fun _ => 0))), (q32, .inl (cq32, 90, .inl (fun _ => 0))), (q41, .inl (cq41, 2412, .inl (fun _ => 0))), (q50, .inl (cq50, 402, .inl (fun _ => 0))), (q59, .inl (cq59, 2412, .inl (fun _ => 0))), (q71, .inl (cq71, 4, .inl (fun _ => 0)))] H := hP
  have hD : va_D (IA h0 s.heap.size) [(h0, .inr (5, [.ref q8, .ref q16, .ref q24, .ref q32, .int 0, .int 0, .int 0, .ref q41, .int 0, .ref q50, .ref q59, .int (-1), .ref q71, .null, .null, .null])), (q8, .inl (cq8, 402, .inl (fun _ => 0))), (q16, .inl (cq16, 12, .inl (fun _ => 0))), (q24, .inl (cq24, 12, .inl (fun _ => 0))), (q32, .inl (cq32, 90, .inl (fun _ => 0))), (q41, .inl (cq41, 2412, .inl (fun _ => 0))), (q50, .inl (cq50, 402, .inl (fun _ => 0))), (q59, .inl (cq59, 2412, .inl (fun _ => 0))), (q71, .inl (cq71, 4, .inl (fun _ => 0)))] := hD
  refine lv_aload_n hx hb e_M_init_76 rfl (lv_at hl 0 rfl) ?_
  refine lv_iconst (v := 4) hx hb e_M_init_77 (by decide) ?_
  refine va_newa (atype := .int) (ty := .int) (n := 4) (N' := 4) (a0 := (4, .inl (fun _ => 0))) hx hb (hts (.arrayClass .int) (tb_at 126 (by decide +kernel) (by decide +kernel))) rfl hK hP hD hS hA (fun _ => rfl) (by decide) (by decide +kernel) (Nat.le_of_ble_eq_true rfl) (Nat.le_of_ble_eq_true rfl) (Nat.le_of_ble_eq_true rfl) e_M_init_78 (fun q78 cq78 H hK hP hD hS => ?_)
  have hP : va_P D vwCl [(h0, .inr (5, [.ref q8, .ref q16, .ref q24, .ref q32, .int 0, .int 0, .int 0, .ref q41, .int 0, .ref q50, .ref q59, .int (-1), .ref q71, .null, .null, .null])), (q8, .inl (cq8, 402, .inl (fun _ => 0))), (q16, .inl (cq16, 12, .inl (fun _ => 0))), (q24, .inl (cq24, 12, .inl (fun _ => 0))), (q32, .inl (cq32, 90, .inl (fun _ => 0))), (q41, .inl (cq41, 2412, .inl (fun _ => 0))), (q50, .inl (cq50, 402, .inl (fun _ => 0))), (q59, .inl (cq59, 2412, .inl (fun _ => 0))), (q71, .inl (cq71, 4, .inl (fun _ => 0))), (q78, .inl (cq78, 4, .inl (fun _ => 0)))] H := hP
  have hD : va_D (IA h0 s.heap.size) [(h0, .inr (5, [.ref q8, .ref q16, .ref q24, .ref q32, .int 0, .int 0, .int 0, .ref q41, .int 0, .ref q50, .ref q59, .int (-1), .ref q71, .null, .null, .null])), (q8, .inl (cq8, 402, .inl (fun _ => 0))), (q16, .inl (cq16, 12, .inl (fun _ => 0))), (q24, .inl (cq24, 12, .inl (fun _ => 0))), (q32, .inl (cq32, 90, .inl (fun _ => 0))), (q41, .inl (cq41, 2412, .inl (fun _ => 0))), (q50, .inl (cq50, 402, .inl (fun _ => 0))), (q59, .inl (cq59, 2412, .inl (fun _ => 0))), (q71, .inl (cq71, 4, .inl (fun _ => 0))), (q78, .inl (cq78, 4, .inl (fun _ => 0)))] := hD
  have hK : va_K D vwCl [(cq8, .int), (cq16, .int), (cq24, .int), (cq32, .int), (cq41, .int), (cq50, .int), (cq59, .int), (cq71, .int), (cq78, .int)] s := hK
  refine va_putF (D := D) (ci := 5) (v := .ref q78) (ty := .array .int) (C := RX6) (T := TX6) (N := 16) hx hb hts iw_M tyX6 tyX6_ok nmX6 hown hK hP hD hS 0 rfl rfl 13 (by decide) (hts (.fieldLink "MixRoundsModel" 38 "MixRoundsModel" "sizes" "[I") (tb_at 610 (by decide +kernel) (by decide +kernel))) (fun _ h9 => h9) rfl hin rfl (by decide +kernel) rfl rfl (Nat.le_of_ble_eq_true rfl) e_M_init_80 (fun H locs hP hD hS => ?_)
  have hP : va_P D vwCl [(h0, .inr (5, [.ref q8, .ref q16, .ref q24, .ref q32, .int 0, .int 0, .int 0, .ref q41, .int 0, .ref q50, .ref q59, .int (-1), .ref q71, .ref q78, .null, .null])), (q8, .inl (cq8, 402, .inl (fun _ => 0))), (q16, .inl (cq16, 12, .inl (fun _ => 0))), (q24, .inl (cq24, 12, .inl (fun _ => 0))), (q32, .inl (cq32, 90, .inl (fun _ => 0))), (q41, .inl (cq41, 2412, .inl (fun _ => 0))), (q50, .inl (cq50, 402, .inl (fun _ => 0))), (q59, .inl (cq59, 2412, .inl (fun _ => 0))), (q71, .inl (cq71, 4, .inl (fun _ => 0))), (q78, .inl (cq78, 4, .inl (fun _ => 0)))] H := hP
  have hD : va_D (IA h0 s.heap.size) [(h0, .inr (5, [.ref q8, .ref q16, .ref q24, .ref q32, .int 0, .int 0, .int 0, .ref q41, .int 0, .ref q50, .ref q59, .int (-1), .ref q71, .ref q78, .null, .null])), (q8, .inl (cq8, 402, .inl (fun _ => 0))), (q16, .inl (cq16, 12, .inl (fun _ => 0))), (q24, .inl (cq24, 12, .inl (fun _ => 0))), (q32, .inl (cq32, 90, .inl (fun _ => 0))), (q41, .inl (cq41, 2412, .inl (fun _ => 0))), (q50, .inl (cq50, 402, .inl (fun _ => 0))), (q59, .inl (cq59, 2412, .inl (fun _ => 0))), (q71, .inl (cq71, 4, .inl (fun _ => 0))), (q78, .inl (cq78, 4, .inl (fun _ => 0)))] := hD
  refine lv_aload_n hx hb e_M_init_83 rfl (lv_at hl 0 rfl) ?_
  refine lv_bipush (v := 96) hx hb e_M_init_84 (by decide) ?_
  refine va_newa (atype := .long) (ty := .long) (n := 96) (N' := 96) (a0 := (96, .inr (.inl (fun _ => 0)))) hx hb (hts (.arrayClass .long) (tb_at 193 (by decide +kernel) (by decide +kernel))) rfl hK hP hD hS hA (fun _ => rfl) (by decide) (by decide +kernel) (Nat.le_of_ble_eq_true rfl) (Nat.le_of_ble_eq_true rfl) (Nat.le_of_ble_eq_true rfl) e_M_init_86 (fun q86 cq86 H hK hP hD hS => ?_)
  have hP : va_P D vwCl [(h0, .inr (5, [.ref q8, .ref q16, .ref q24, .ref q32, .int 0, .int 0, .int 0, .ref q41, .int 0, .ref q50, .ref q59, .int (-1), .ref q71, .ref q78, .null, .null])), (q8, .inl (cq8, 402, .inl (fun _ => 0))), (q16, .inl (cq16, 12, .inl (fun _ => 0))), (q24, .inl (cq24, 12, .inl (fun _ => 0))), (q32, .inl (cq32, 90, .inl (fun _ => 0))), (q41, .inl (cq41, 2412, .inl (fun _ => 0))), (q50, .inl (cq50, 402, .inl (fun _ => 0))), (q59, .inl (cq59, 2412, .inl (fun _ => 0))), (q71, .inl (cq71, 4, .inl (fun _ => 0))), (q78, .inl (cq78, 4, .inl (fun _ => 0))), (q86, .inl (cq86, 96, .inr (.inl (fun _ => 0))))] H := hP
  have hD : va_D (IA h0 s.heap.size) [(h0, .inr (5, [.ref q8, .ref q16, .ref q24, .ref q32, .int 0, .int 0, .int 0, .ref q41, .int 0, .ref q50, .ref q59, .int (-1), .ref q71, .ref q78, .null, .null])), (q8, .inl (cq8, 402, .inl (fun _ => 0))), (q16, .inl (cq16, 12, .inl (fun _ => 0))), (q24, .inl (cq24, 12, .inl (fun _ => 0))), (q32, .inl (cq32, 90, .inl (fun _ => 0))), (q41, .inl (cq41, 2412, .inl (fun _ => 0))), (q50, .inl (cq50, 402, .inl (fun _ => 0))), (q59, .inl (cq59, 2412, .inl (fun _ => 0))), (q71, .inl (cq71, 4, .inl (fun _ => 0))), (q78, .inl (cq78, 4, .inl (fun _ => 0))), (q86, .inl (cq86, 96, .inr (.inl (fun _ => 0))))] := hD
  have hK : va_K D vwCl [(cq8, .int), (cq16, .int), (cq24, .int), (cq32, .int), (cq41, .int), (cq50, .int), (cq59, .int), (cq71, .int), (cq78, .int), (cq86, .long)] s := hK
  refine va_putF (D := D) (ci := 5) (v := .ref q86) (ty := .array .long) (C := RX6) (T := TX6) (N := 16) hx hb hts iw_M tyX6 tyX6_ok nmX6 hown hK hP hD hS 0 rfl rfl 14 (by decide) (hts (.fieldLink "MixRoundsModel" 41 "MixRoundsModel" "items" "[J") (tb_at 611 (by decide +kernel) (by decide +kernel))) (fun _ h9 => h9) rfl hin rfl (by decide +kernel) rfl rfl (Nat.le_of_ble_eq_true rfl) e_M_init_88 (fun H locs hP hD hS => ?_)
  have hP : va_P D vwCl [(h0, .inr (5, [.ref q8, .ref q16, .ref q24, .ref q32, .int 0, .int 0, .int 0, .ref q41, .int 0, .ref q50, .ref q59, .int (-1), .ref q71, .ref q78, .ref q86, .null])), (q8, .inl (cq8, 402, .inl (fun _ => 0))), (q16, .inl (cq16, 12, .inl (fun _ => 0))), (q24, .inl (cq24, 12, .inl (fun _ => 0))), (q32, .inl (cq32, 90, .inl (fun _ => 0))), (q41, .inl (cq41, 2412, .inl (fun _ => 0))), (q50, .inl (cq50, 402, .inl (fun _ => 0))), (q59, .inl (cq59, 2412, .inl (fun _ => 0))), (q71, .inl (cq71, 4, .inl (fun _ => 0))), (q78, .inl (cq78, 4, .inl (fun _ => 0))), (q86, .inl (cq86, 96, .inr (.inl (fun _ => 0))))] H := hP
  have hD : va_D (IA h0 s.heap.size) [(h0, .inr (5, [.ref q8, .ref q16, .ref q24, .ref q32, .int 0, .int 0, .int 0, .ref q41, .int 0, .ref q50, .ref q59, .int (-1), .ref q71, .ref q78, .ref q86, .null])), (q8, .inl (cq8, 402, .inl (fun _ => 0))), (q16, .inl (cq16, 12, .inl (fun _ => 0))), (q24, .inl (cq24, 12, .inl (fun _ => 0))), (q32, .inl (cq32, 90, .inl (fun _ => 0))), (q41, .inl (cq41, 2412, .inl (fun _ => 0))), (q50, .inl (cq50, 402, .inl (fun _ => 0))), (q59, .inl (cq59, 2412, .inl (fun _ => 0))), (q71, .inl (cq71, 4, .inl (fun _ => 0))), (q78, .inl (cq78, 4, .inl (fun _ => 0))), (q86, .inl (cq86, 96, .inr (.inl (fun _ => 0))))] := hD
  refine lv_aload_n hx hb e_M_init_91 rfl (lv_at hl 0 rfl) ?_
  refine lv_bipush (v := 24) hx hb e_M_init_92 (by decide) ?_
  refine va_newa (atype := .long) (ty := .long) (n := 24) (N' := 24) (a0 := (24, .inr (.inl (fun _ => 0)))) hx hb (hts (.arrayClass .long) (tb_at 193 (by decide +kernel) (by decide +kernel))) rfl hK hP hD hS hA (fun _ => rfl) (by decide) (by decide +kernel) (Nat.le_of_ble_eq_true rfl) (Nat.le_of_ble_eq_true rfl) (Nat.le_of_ble_eq_true rfl) e_M_init_94 (fun q94 cq94 H hK hP hD hS => ?_)
  have hP : va_P D vwCl [(h0, .inr (5, [.ref q8, .ref q16, .ref q24, .ref q32, .int 0, .int 0, .int 0, .ref q41, .int 0, .ref q50, .ref q59, .int (-1), .ref q71, .ref q78, .ref q86, .null])), (q8, .inl (cq8, 402, .inl (fun _ => 0))), (q16, .inl (cq16, 12, .inl (fun _ => 0))), (q24, .inl (cq24, 12, .inl (fun _ => 0))), (q32, .inl (cq32, 90, .inl (fun _ => 0))), (q41, .inl (cq41, 2412, .inl (fun _ => 0))), (q50, .inl (cq50, 402, .inl (fun _ => 0))), (q59, .inl (cq59, 2412, .inl (fun _ => 0))), (q71, .inl (cq71, 4, .inl (fun _ => 0))), (q78, .inl (cq78, 4, .inl (fun _ => 0))), (q86, .inl (cq86, 96, .inr (.inl (fun _ => 0)))), (q94, .inl (cq94, 24, .inr (.inl (fun _ => 0))))] H := hP
  have hD : va_D (IA h0 s.heap.size) [(h0, .inr (5, [.ref q8, .ref q16, .ref q24, .ref q32, .int 0, .int 0, .int 0, .ref q41, .int 0, .ref q50, .ref q59, .int (-1), .ref q71, .ref q78, .ref q86, .null])), (q8, .inl (cq8, 402, .inl (fun _ => 0))), (q16, .inl (cq16, 12, .inl (fun _ => 0))), (q24, .inl (cq24, 12, .inl (fun _ => 0))), (q32, .inl (cq32, 90, .inl (fun _ => 0))), (q41, .inl (cq41, 2412, .inl (fun _ => 0))), (q50, .inl (cq50, 402, .inl (fun _ => 0))), (q59, .inl (cq59, 2412, .inl (fun _ => 0))), (q71, .inl (cq71, 4, .inl (fun _ => 0))), (q78, .inl (cq78, 4, .inl (fun _ => 0))), (q86, .inl (cq86, 96, .inr (.inl (fun _ => 0)))), (q94, .inl (cq94, 24, .inr (.inl (fun _ => 0))))] := hD
  have hK : va_K D vwCl [(cq8, .int), (cq16, .int), (cq24, .int), (cq32, .int), (cq41, .int), (cq50, .int), (cq59, .int), (cq71, .int), (cq78, .int), (cq86, .long), (cq94, .long)] s := hK
  refine va_putF (D := D) (ci := 5) (v := .ref q94) (ty := .array .long) (C := RX6) (T := TX6) (N := 16) hx hb hts iw_M tyX6 tyX6_ok nmX6 hown hK hP hD hS 0 rfl rfl 15 (by decide) (hts (.fieldLink "MixRoundsModel" 45 "MixRoundsModel" "moved" "[J") (tb_at 612 (by decide +kernel) (by decide +kernel))) (fun _ h9 => h9) rfl hin rfl (by decide +kernel) rfl rfl (Nat.le_of_ble_eq_true rfl) e_M_init_96 (fun H locs hP hD hS => ?_)
  have hP : va_P D vwCl [(h0, .inr (5, [.ref q8, .ref q16, .ref q24, .ref q32, .int 0, .int 0, .int 0, .ref q41, .int 0, .ref q50, .ref q59, .int (-1), .ref q71, .ref q78, .ref q86, .ref q94])), (q8, .inl (cq8, 402, .inl (fun _ => 0))), (q16, .inl (cq16, 12, .inl (fun _ => 0))), (q24, .inl (cq24, 12, .inl (fun _ => 0))), (q32, .inl (cq32, 90, .inl (fun _ => 0))), (q41, .inl (cq41, 2412, .inl (fun _ => 0))), (q50, .inl (cq50, 402, .inl (fun _ => 0))), (q59, .inl (cq59, 2412, .inl (fun _ => 0))), (q71, .inl (cq71, 4, .inl (fun _ => 0))), (q78, .inl (cq78, 4, .inl (fun _ => 0))), (q86, .inl (cq86, 96, .inr (.inl (fun _ => 0)))), (q94, .inl (cq94, 24, .inr (.inl (fun _ => 0))))] H := hP
  have hD : va_D (IA h0 s.heap.size) [(h0, .inr (5, [.ref q8, .ref q16, .ref q24, .ref q32, .int 0, .int 0, .int 0, .ref q41, .int 0, .ref q50, .ref q59, .int (-1), .ref q71, .ref q78, .ref q86, .ref q94])), (q8, .inl (cq8, 402, .inl (fun _ => 0))), (q16, .inl (cq16, 12, .inl (fun _ => 0))), (q24, .inl (cq24, 12, .inl (fun _ => 0))), (q32, .inl (cq32, 90, .inl (fun _ => 0))), (q41, .inl (cq41, 2412, .inl (fun _ => 0))), (q50, .inl (cq50, 402, .inl (fun _ => 0))), (q59, .inl (cq59, 2412, .inl (fun _ => 0))), (q71, .inl (cq71, 4, .inl (fun _ => 0))), (q78, .inl (cq78, 4, .inl (fun _ => 0))), (q86, .inl (cq86, 96, .inr (.inl (fun _ => 0)))), (q94, .inl (cq94, 24, .inr (.inl (fun _ => 0))))] := hD
  refine lv_aload_n hx hb e_M_init_99 rfl (lv_at hl 0 rfl) ?_
  refine va_get (D := D) (ci := 5) (v := .ref q8) (C := RX6) (T := TX6) (N := 16) hx hb hts iw_M hown hK hP 0 rfl rfl 0 (by decide) (hts (.fieldLink "MixRoundsModel" 7 "MixRoundsModel" "now" "[I") (tb_at 597 (by decide +kernel) (by decide +kernel))) (fun _ h9 => h9) rfl e_M_init_100 ?_
  refine lv_iconst (v := 1) hx hb e_M_init_103 (by decide) ?_
  refine lv_iconst (v := 3) hx hb e_M_init_104 (by decide) ?_
  refine va_iast (i := 1) (x := 3) (n := 402) hx hb hK hP hD hS 1 0 rfl rfl (by unfold vp_in; decide) e_M_init_105 (fun H locs hP hD hS => ?_)
  have hP : va_P D vwCl [(h0, .inr (5, [.ref q8, .ref q16, .ref q24, .ref q32, .int 0, .int 0, .int 0, .ref q41, .int 0, .ref q50, .ref q59, .int (-1), .ref q71, .ref q78, .ref q86, .ref q94])), (q8, .inl (cq8, 402, .inl (upd (fun _ => 0) 1 3))), (q16, .inl (cq16, 12, .inl (fun _ => 0))), (q24, .inl (cq24, 12, .inl (fun _ => 0))), (q32, .inl (cq32, 90, .inl (fun _ => 0))), (q41, .inl (cq41, 2412, .inl (fun _ => 0))), (q50, .inl (cq50, 402, .inl (fun _ => 0))), (q59, .inl (cq59, 2412, .inl (fun _ => 0))), (q71, .inl (cq71, 4, .inl (fun _ => 0))), (q78, .inl (cq78, 4, .inl (fun _ => 0))), (q86, .inl (cq86, 96, .inr (.inl (fun _ => 0)))), (q94, .inl (cq94, 24, .inr (.inl (fun _ => 0))))] H := hP
  have hD : va_D (IA h0 s.heap.size) [(h0, .inr (5, [.ref q8, .ref q16, .ref q24, .ref q32, .int 0, .int 0, .int 0, .ref q41, .int 0, .ref q50, .ref q59, .int (-1), .ref q71, .ref q78, .ref q86, .ref q94])), (q8, .inl (cq8, 402, .inl (upd (fun _ => 0) 1 3))), (q16, .inl (cq16, 12, .inl (fun _ => 0))), (q24, .inl (cq24, 12, .inl (fun _ => 0))), (q32, .inl (cq32, 90, .inl (fun _ => 0))), (q41, .inl (cq41, 2412, .inl (fun _ => 0))), (q50, .inl (cq50, 402, .inl (fun _ => 0))), (q59, .inl (cq59, 2412, .inl (fun _ => 0))), (q71, .inl (cq71, 4, .inl (fun _ => 0))), (q78, .inl (cq78, 4, .inl (fun _ => 0))), (q86, .inl (cq86, 96, .inr (.inl (fun _ => 0)))), (q94, .inl (cq94, 24, .inr (.inl (fun _ => 0))))] := hD
  refine lv_aload_n hx hb e_M_init_106 rfl (lv_at hl 0 rfl) ?_
  refine va_get (D := D) (ci := 5) (v := .ref q8) (C := RX6) (T := TX6) (N := 16) hx hb hts iw_M hown hK hP 0 rfl rfl 0 (by decide) (hts (.fieldLink "MixRoundsModel" 7 "MixRoundsModel" "now" "[I") (tb_at 597 (by decide +kernel) (by decide +kernel))) (fun _ h9 => h9) rfl e_M_init_107 ?_
  refine lv_iconst (v := 2) hx hb e_M_init_110 (by decide) ?_
  refine lv_iconst (v := 1) hx hb e_M_init_111 (by decide) ?_
  refine va_iast (i := 2) (x := 1) (n := 402) hx hb hK hP hD hS 1 0 rfl rfl (by unfold vp_in; decide) e_M_init_112 (fun H locs hP hD hS => ?_)
  have hP : va_P D vwCl [(h0, .inr (5, [.ref q8, .ref q16, .ref q24, .ref q32, .int 0, .int 0, .int 0, .ref q41, .int 0, .ref q50, .ref q59, .int (-1), .ref q71, .ref q78, .ref q86, .ref q94])), (q8, .inl (cq8, 402, .inl (upd (upd (fun _ => 0) 1 3) 2 1))), (q16, .inl (cq16, 12, .inl (fun _ => 0))), (q24, .inl (cq24, 12, .inl (fun _ => 0))), (q32, .inl (cq32, 90, .inl (fun _ => 0))), (q41, .inl (cq41, 2412, .inl (fun _ => 0))), (q50, .inl (cq50, 402, .inl (fun _ => 0))), (q59, .inl (cq59, 2412, .inl (fun _ => 0))), (q71, .inl (cq71, 4, .inl (fun _ => 0))), (q78, .inl (cq78, 4, .inl (fun _ => 0))), (q86, .inl (cq86, 96, .inr (.inl (fun _ => 0)))), (q94, .inl (cq94, 24, .inr (.inl (fun _ => 0))))] H := hP
  have hD : va_D (IA h0 s.heap.size) [(h0, .inr (5, [.ref q8, .ref q16, .ref q24, .ref q32, .int 0, .int 0, .int 0, .ref q41, .int 0, .ref q50, .ref q59, .int (-1), .ref q71, .ref q78, .ref q86, .ref q94])), (q8, .inl (cq8, 402, .inl (upd (upd (fun _ => 0) 1 3) 2 1))), (q16, .inl (cq16, 12, .inl (fun _ => 0))), (q24, .inl (cq24, 12, .inl (fun _ => 0))), (q32, .inl (cq32, 90, .inl (fun _ => 0))), (q41, .inl (cq41, 2412, .inl (fun _ => 0))), (q50, .inl (cq50, 402, .inl (fun _ => 0))), (q59, .inl (cq59, 2412, .inl (fun _ => 0))), (q71, .inl (cq71, 4, .inl (fun _ => 0))), (q78, .inl (cq78, 4, .inl (fun _ => 0))), (q86, .inl (cq86, 96, .inr (.inl (fun _ => 0)))), (q94, .inl (cq94, 24, .inr (.inl (fun _ => 0))))] := hD
  refine lv_aload_n hx hb e_M_init_113 rfl (lv_at hl 0 rfl) ?_
  refine va_get (D := D) (ci := 5) (v := .ref q8) (C := RX6) (T := TX6) (N := 16) hx hb hts iw_M hown hK hP 0 rfl rfl 0 (by decide) (hts (.fieldLink "MixRoundsModel" 7 "MixRoundsModel" "now" "[I") (tb_at 597 (by decide +kernel) (by decide +kernel))) (fun _ h9 => h9) rfl e_M_init_114 ?_
  refine lv_iconst (v := 4) hx hb e_M_init_117 (by decide) ?_
  refine lv_iconst (v := 1) hx hb e_M_init_118 (by decide) ?_
  refine va_iast (i := 4) (x := 1) (n := 402) hx hb hK hP hD hS 1 0 rfl rfl (by unfold vp_in; decide) e_M_init_119 (fun H locs hP hD hS => ?_)
  have hP : va_P D vwCl [(h0, .inr (5, [.ref q8, .ref q16, .ref q24, .ref q32, .int 0, .int 0, .int 0, .ref q41, .int 0, .ref q50, .ref q59, .int (-1), .ref q71, .ref q78, .ref q86, .ref q94])), (q8, .inl (cq8, 402, .inl (upd (upd (upd (fun _ => 0) 1 3) 2 1) 4 1))), (q16, .inl (cq16, 12, .inl (fun _ => 0))), (q24, .inl (cq24, 12, .inl (fun _ => 0))), (q32, .inl (cq32, 90, .inl (fun _ => 0))), (q41, .inl (cq41, 2412, .inl (fun _ => 0))), (q50, .inl (cq50, 402, .inl (fun _ => 0))), (q59, .inl (cq59, 2412, .inl (fun _ => 0))), (q71, .inl (cq71, 4, .inl (fun _ => 0))), (q78, .inl (cq78, 4, .inl (fun _ => 0))), (q86, .inl (cq86, 96, .inr (.inl (fun _ => 0)))), (q94, .inl (cq94, 24, .inr (.inl (fun _ => 0))))] H := hP
  have hD : va_D (IA h0 s.heap.size) [(h0, .inr (5, [.ref q8, .ref q16, .ref q24, .ref q32, .int 0, .int 0, .int 0, .ref q41, .int 0, .ref q50, .ref q59, .int (-1), .ref q71, .ref q78, .ref q86, .ref q94])), (q8, .inl (cq8, 402, .inl (upd (upd (upd (fun _ => 0) 1 3) 2 1) 4 1))), (q16, .inl (cq16, 12, .inl (fun _ => 0))), (q24, .inl (cq24, 12, .inl (fun _ => 0))), (q32, .inl (cq32, 90, .inl (fun _ => 0))), (q41, .inl (cq41, 2412, .inl (fun _ => 0))), (q50, .inl (cq50, 402, .inl (fun _ => 0))), (q59, .inl (cq59, 2412, .inl (fun _ => 0))), (q71, .inl (cq71, 4, .inl (fun _ => 0))), (q78, .inl (cq78, 4, .inl (fun _ => 0))), (q86, .inl (cq86, 96, .inr (.inl (fun _ => 0)))), (q94, .inl (cq94, 24, .inr (.inl (fun _ => 0))))] := hD
  refine lv_iconst (v := 0) hx hb e_M_init_120 (by decide) ?_
  refine lv_istore_n (lv' := [(1, .int 0), (0, .ref h0)]) hx hb e_M_init_121 rfl hl (by decide) rfl (fun ls hl => ?_)
  refine lv_iload_n hx hb e_M_init_122 rfl (lv_at hl 0 rfl) ?_
  refine lv_iconst (v := 4) hx hb e_M_init_123 (by decide) ?_
  refine lv_icmp_ge (tgt := 140) hx hb e_M_init_124 (by decide) (fun h => absurd h (by decide)) (fun _ => ?_)
  refine lv_aload_n hx hb e_M_init_127 rfl (lv_at hl 1 rfl) ?_
  refine va_get (D := D) (ci := 5) (v := .ref q71) (C := RX6) (T := TX6) (N := 16) hx hb hts iw_M hown hK hP 0 rfl rfl 12 (by decide) (hts (.fieldLink "MixRoundsModel" 35 "MixRoundsModel" "lanes" "[I") (tb_at 609 (by decide +kernel) (by decide +kernel))) (fun _ h9 => h9) rfl e_M_init_128 ?_
  refine lv_iload_n hx hb e_M_init_131 rfl (lv_at hl 0 rfl) ?_
  refine lv_iconst (v := (-1)) hx hb e_M_init_132 (by decide) ?_
  refine va_iast (i := 0) (x := (-1)) (n := 4) hx hb hK hP hD hS 8 7 rfl rfl (by unfold vp_in; decide) e_M_init_133 (fun H locs hP hD hS => ?_)
  have hP : va_P D vwCl [(h0, .inr (5, [.ref q8, .ref q16, .ref q24, .ref q32, .int 0, .int 0, .int 0, .ref q41, .int 0, .ref q50, .ref q59, .int (-1), .ref q71, .ref q78, .ref q86, .ref q94])), (q8, .inl (cq8, 402, .inl (upd (upd (upd (fun _ => 0) 1 3) 2 1) 4 1))), (q16, .inl (cq16, 12, .inl (fun _ => 0))), (q24, .inl (cq24, 12, .inl (fun _ => 0))), (q32, .inl (cq32, 90, .inl (fun _ => 0))), (q41, .inl (cq41, 2412, .inl (fun _ => 0))), (q50, .inl (cq50, 402, .inl (fun _ => 0))), (q59, .inl (cq59, 2412, .inl (fun _ => 0))), (q71, .inl (cq71, 4, .inl (upd (fun _ => 0) 0 (-1)))), (q78, .inl (cq78, 4, .inl (fun _ => 0))), (q86, .inl (cq86, 96, .inr (.inl (fun _ => 0)))), (q94, .inl (cq94, 24, .inr (.inl (fun _ => 0))))] H := hP
  have hD : va_D (IA h0 s.heap.size) [(h0, .inr (5, [.ref q8, .ref q16, .ref q24, .ref q32, .int 0, .int 0, .int 0, .ref q41, .int 0, .ref q50, .ref q59, .int (-1), .ref q71, .ref q78, .ref q86, .ref q94])), (q8, .inl (cq8, 402, .inl (upd (upd (upd (fun _ => 0) 1 3) 2 1) 4 1))), (q16, .inl (cq16, 12, .inl (fun _ => 0))), (q24, .inl (cq24, 12, .inl (fun _ => 0))), (q32, .inl (cq32, 90, .inl (fun _ => 0))), (q41, .inl (cq41, 2412, .inl (fun _ => 0))), (q50, .inl (cq50, 402, .inl (fun _ => 0))), (q59, .inl (cq59, 2412, .inl (fun _ => 0))), (q71, .inl (cq71, 4, .inl (upd (fun _ => 0) 0 (-1)))), (q78, .inl (cq78, 4, .inl (fun _ => 0))), (q86, .inl (cq86, 96, .inr (.inl (fun _ => 0)))), (q94, .inl (cq94, 24, .inr (.inl (fun _ => 0))))] := hD
  refine lv_iinc (v := 1) (lv' := [(1, .int 1), (0, .ref h0)]) hx hb e_M_init_134 hl (k := 0) rfl (by decide) (by decide) rfl (fun ls hl => ?_)
  refine lv_goto (tgt := 122) hx hb e_M_init_137 (by decide) ?_
  refine lv_iload_n hx hb e_M_init_122 rfl (lv_at hl 0 rfl) ?_
  refine lv_iconst (v := 4) hx hb e_M_init_123 (by decide) ?_
  refine lv_icmp_ge (tgt := 140) hx hb e_M_init_124 (by decide) (fun h => absurd h (by decide)) (fun _ => ?_)
  refine lv_aload_n hx hb e_M_init_127 rfl (lv_at hl 1 rfl) ?_
  refine va_get (D := D) (ci := 5) (v := .ref q71) (C := RX6) (T := TX6) (N := 16) hx hb hts iw_M hown hK hP 0 rfl rfl 12 (by decide) (hts (.fieldLink "MixRoundsModel" 35 "MixRoundsModel" "lanes" "[I") (tb_at 609 (by decide +kernel) (by decide +kernel))) (fun _ h9 => h9) rfl e_M_init_128 ?_
  refine lv_iload_n hx hb e_M_init_131 rfl (lv_at hl 0 rfl) ?_
  refine lv_iconst (v := (-1)) hx hb e_M_init_132 (by decide) ?_
  refine va_iast (i := 1) (x := (-1)) (n := 4) hx hb hK hP hD hS 8 7 rfl rfl (by unfold vp_in; decide) e_M_init_133 (fun H locs hP hD hS => ?_)
  have hP : va_P D vwCl [(h0, .inr (5, [.ref q8, .ref q16, .ref q24, .ref q32, .int 0, .int 0, .int 0, .ref q41, .int 0, .ref q50, .ref q59, .int (-1), .ref q71, .ref q78, .ref q86, .ref q94])), (q8, .inl (cq8, 402, .inl (upd (upd (upd (fun _ => 0) 1 3) 2 1) 4 1))), (q16, .inl (cq16, 12, .inl (fun _ => 0))), (q24, .inl (cq24, 12, .inl (fun _ => 0))), (q32, .inl (cq32, 90, .inl (fun _ => 0))), (q41, .inl (cq41, 2412, .inl (fun _ => 0))), (q50, .inl (cq50, 402, .inl (fun _ => 0))), (q59, .inl (cq59, 2412, .inl (fun _ => 0))), (q71, .inl (cq71, 4, .inl (upd (upd (fun _ => 0) 0 (-1)) 1 (-1)))), (q78, .inl (cq78, 4, .inl (fun _ => 0))), (q86, .inl (cq86, 96, .inr (.inl (fun _ => 0)))), (q94, .inl (cq94, 24, .inr (.inl (fun _ => 0))))] H := hP
  have hD : va_D (IA h0 s.heap.size) [(h0, .inr (5, [.ref q8, .ref q16, .ref q24, .ref q32, .int 0, .int 0, .int 0, .ref q41, .int 0, .ref q50, .ref q59, .int (-1), .ref q71, .ref q78, .ref q86, .ref q94])), (q8, .inl (cq8, 402, .inl (upd (upd (upd (fun _ => 0) 1 3) 2 1) 4 1))), (q16, .inl (cq16, 12, .inl (fun _ => 0))), (q24, .inl (cq24, 12, .inl (fun _ => 0))), (q32, .inl (cq32, 90, .inl (fun _ => 0))), (q41, .inl (cq41, 2412, .inl (fun _ => 0))), (q50, .inl (cq50, 402, .inl (fun _ => 0))), (q59, .inl (cq59, 2412, .inl (fun _ => 0))), (q71, .inl (cq71, 4, .inl (upd (upd (fun _ => 0) 0 (-1)) 1 (-1)))), (q78, .inl (cq78, 4, .inl (fun _ => 0))), (q86, .inl (cq86, 96, .inr (.inl (fun _ => 0)))), (q94, .inl (cq94, 24, .inr (.inl (fun _ => 0))))] := hD
  refine lv_iinc (v := 2) (lv' := [(1, .int 2), (0, .ref h0)]) hx hb e_M_init_134 hl (k := 0) rfl (by decide) (by decide) rfl (fun ls hl => ?_)
  refine lv_goto (tgt := 122) hx hb e_M_init_137 (by decide) ?_
  refine lv_iload_n hx hb e_M_init_122 rfl (lv_at hl 0 rfl) ?_
  refine lv_iconst (v := 4) hx hb e_M_init_123 (by decide) ?_
  refine lv_icmp_ge (tgt := 140) hx hb e_M_init_124 (by decide) (fun h => absurd h (by decide)) (fun _ => ?_)
  refine lv_aload_n hx hb e_M_init_127 rfl (lv_at hl 1 rfl) ?_
  refine va_get (D := D) (ci := 5) (v := .ref q71) (C := RX6) (T := TX6) (N := 16) hx hb hts iw_M hown hK hP 0 rfl rfl 12 (by decide) (hts (.fieldLink "MixRoundsModel" 35 "MixRoundsModel" "lanes" "[I") (tb_at 609 (by decide +kernel) (by decide +kernel))) (fun _ h9 => h9) rfl e_M_init_128 ?_
  refine lv_iload_n hx hb e_M_init_131 rfl (lv_at hl 0 rfl) ?_
  refine lv_iconst (v := (-1)) hx hb e_M_init_132 (by decide) ?_
  refine va_iast (i := 2) (x := (-1)) (n := 4) hx hb hK hP hD hS 8 7 rfl rfl (by unfold vp_in; decide) e_M_init_133 (fun H locs hP hD hS => ?_)
  have hP : va_P D vwCl [(h0, .inr (5, [.ref q8, .ref q16, .ref q24, .ref q32, .int 0, .int 0, .int 0, .ref q41, .int 0, .ref q50, .ref q59, .int (-1), .ref q71, .ref q78, .ref q86, .ref q94])), (q8, .inl (cq8, 402, .inl (upd (upd (upd (fun _ => 0) 1 3) 2 1) 4 1))), (q16, .inl (cq16, 12, .inl (fun _ => 0))), (q24, .inl (cq24, 12, .inl (fun _ => 0))), (q32, .inl (cq32, 90, .inl (fun _ => 0))), (q41, .inl (cq41, 2412, .inl (fun _ => 0))), (q50, .inl (cq50, 402, .inl (fun _ => 0))), (q59, .inl (cq59, 2412, .inl (fun _ => 0))), (q71, .inl (cq71, 4, .inl (upd (upd (upd (fun _ => 0) 0 (-1)) 1 (-1)) 2 (-1)))), (q78, .inl (cq78, 4, .inl (fun _ => 0))), (q86, .inl (cq86, 96, .inr (.inl (fun _ => 0)))), (q94, .inl (cq94, 24, .inr (.inl (fun _ => 0))))] H := hP
  have hD : va_D (IA h0 s.heap.size) [(h0, .inr (5, [.ref q8, .ref q16, .ref q24, .ref q32, .int 0, .int 0, .int 0, .ref q41, .int 0, .ref q50, .ref q59, .int (-1), .ref q71, .ref q78, .ref q86, .ref q94])), (q8, .inl (cq8, 402, .inl (upd (upd (upd (fun _ => 0) 1 3) 2 1) 4 1))), (q16, .inl (cq16, 12, .inl (fun _ => 0))), (q24, .inl (cq24, 12, .inl (fun _ => 0))), (q32, .inl (cq32, 90, .inl (fun _ => 0))), (q41, .inl (cq41, 2412, .inl (fun _ => 0))), (q50, .inl (cq50, 402, .inl (fun _ => 0))), (q59, .inl (cq59, 2412, .inl (fun _ => 0))), (q71, .inl (cq71, 4, .inl (upd (upd (upd (fun _ => 0) 0 (-1)) 1 (-1)) 2 (-1)))), (q78, .inl (cq78, 4, .inl (fun _ => 0))), (q86, .inl (cq86, 96, .inr (.inl (fun _ => 0)))), (q94, .inl (cq94, 24, .inr (.inl (fun _ => 0))))] := hD
  refine lv_iinc (v := 3) (lv' := [(1, .int 3), (0, .ref h0)]) hx hb e_M_init_134 hl (k := 0) rfl (by decide) (by decide) rfl (fun ls hl => ?_)
  refine lv_goto (tgt := 122) hx hb e_M_init_137 (by decide) ?_
  refine lv_iload_n hx hb e_M_init_122 rfl (lv_at hl 0 rfl) ?_
  refine lv_iconst (v := 4) hx hb e_M_init_123 (by decide) ?_
  refine lv_icmp_ge (tgt := 140) hx hb e_M_init_124 (by decide) (fun h => absurd h (by decide)) (fun _ => ?_)
  refine lv_aload_n hx hb e_M_init_127 rfl (lv_at hl 1 rfl) ?_
  refine va_get (D := D) (ci := 5) (v := .ref q71) (C := RX6) (T := TX6) (N := 16) hx hb hts iw_M hown hK hP 0 rfl rfl 12 (by decide) (hts (.fieldLink "MixRoundsModel" 35 "MixRoundsModel" "lanes" "[I") (tb_at 609 (by decide +kernel) (by decide +kernel))) (fun _ h9 => h9) rfl e_M_init_128 ?_
  refine lv_iload_n hx hb e_M_init_131 rfl (lv_at hl 0 rfl) ?_
  refine lv_iconst (v := (-1)) hx hb e_M_init_132 (by decide) ?_
  refine va_iast (i := 3) (x := (-1)) (n := 4) hx hb hK hP hD hS 8 7 rfl rfl (by unfold vp_in; decide) e_M_init_133 (fun H locs hP hD hS => ?_)
  have hP : va_P D vwCl [(h0, .inr (5, [.ref q8, .ref q16, .ref q24, .ref q32, .int 0, .int 0, .int 0, .ref q41, .int 0, .ref q50, .ref q59, .int (-1), .ref q71, .ref q78, .ref q86, .ref q94])), (q8, .inl (cq8, 402, .inl (upd (upd (upd (fun _ => 0) 1 3) 2 1) 4 1))), (q16, .inl (cq16, 12, .inl (fun _ => 0))), (q24, .inl (cq24, 12, .inl (fun _ => 0))), (q32, .inl (cq32, 90, .inl (fun _ => 0))), (q41, .inl (cq41, 2412, .inl (fun _ => 0))), (q50, .inl (cq50, 402, .inl (fun _ => 0))), (q59, .inl (cq59, 2412, .inl (fun _ => 0))), (q71, .inl (cq71, 4, .inl (upd (upd (upd (upd (fun _ => 0) 0 (-1)) 1 (-1)) 2 (-1)) 3 (-1)))), (q78, .inl (cq78, 4, .inl (fun _ => 0))), (q86, .inl (cq86, 96, .inr (.inl (fun _ => 0)))), (q94, .inl (cq94, 24, .inr (.inl (fun _ => 0))))] H := hP
  have hD : va_D (IA h0 s.heap.size) [(h0, .inr (5, [.ref q8, .ref q16, .ref q24, .ref q32, .int 0, .int 0, .int 0, .ref q41, .int 0, .ref q50, .ref q59, .int (-1), .ref q71, .ref q78, .ref q86, .ref q94])), (q8, .inl (cq8, 402, .inl (upd (upd (upd (fun _ => 0) 1 3) 2 1) 4 1))), (q16, .inl (cq16, 12, .inl (fun _ => 0))), (q24, .inl (cq24, 12, .inl (fun _ => 0))), (q32, .inl (cq32, 90, .inl (fun _ => 0))), (q41, .inl (cq41, 2412, .inl (fun _ => 0))), (q50, .inl (cq50, 402, .inl (fun _ => 0))), (q59, .inl (cq59, 2412, .inl (fun _ => 0))), (q71, .inl (cq71, 4, .inl (upd (upd (upd (upd (fun _ => 0) 0 (-1)) 1 (-1)) 2 (-1)) 3 (-1)))), (q78, .inl (cq78, 4, .inl (fun _ => 0))), (q86, .inl (cq86, 96, .inr (.inl (fun _ => 0)))), (q94, .inl (cq94, 24, .inr (.inl (fun _ => 0))))] := hD
  refine lv_iinc (v := 4) (lv' := [(1, .int 4), (0, .ref h0)]) hx hb e_M_init_134 hl (k := 0) rfl (by decide) (by decide) rfl (fun ls hl => ?_)
  refine lv_goto (tgt := 122) hx hb e_M_init_137 (by decide) ?_
  refine lv_iload_n hx hb e_M_init_122 rfl (lv_at hl 0 rfl) ?_
  refine lv_iconst (v := 4) hx hb e_M_init_123 (by decide) ?_
  refine lv_icmp_ge (tgt := 140) hx hb e_M_init_124 (by decide) (fun _ => ?_) (fun h => absurd (show (4 : Int32) ≤ 4 by decide) h)
  refine W.widen (k := 11) (n := 5870) (Nat.le_of_ble_eq_true rfl) (Nat.le_of_ble_eq_true rfl) ?_
  exact W.vret hx hb hr (fun t ht hW => ⟨⟨(), rfl, trivial, [(h0, .inr (5, [.ref q8, .ref q16, .ref q24, .ref q32, .int 0, .int 0, .int 0, .ref q41, .int 0, .ref q50, .ref q59, .int (-1), .ref q71, .ref q78, .ref q86, .ref q94])), (q8, .inl (cq8, 402, .inl (upd (upd (upd (fun _ => 0) 1 3) 2 1) 4 1))), (q16, .inl (cq16, 12, .inl (fun _ => 0))), (q24, .inl (cq24, 12, .inl (fun _ => 0))), (q32, .inl (cq32, 90, .inl (fun _ => 0))), (q41, .inl (cq41, 2412, .inl (fun _ => 0))), (q50, .inl (cq50, 402, .inl (fun _ => 0))), (q59, .inl (cq59, 2412, .inl (fun _ => 0))), (q71, .inl (cq71, 4, .inl (upd (upd (upd (upd (fun _ => 0) 0 (-1)) 1 (-1)) 2 (-1)) 3 (-1)))), (q78, .inl (cq78, 4, .inl (fun _ => 0))), (q86, .inl (cq86, 96, .inr (.inl (fun _ => 0)))), (q94, .inl (cq94, 24, .inr (.inl (fun _ => 0))))], [(cq8, .int), (cq16, .int), (cq24, .int), (cq32, .int), (cq41, .int), (cq50, .int), (cq59, .int), (cq71, .int), (cq78, .int), (cq86, .long), (cq94, .long)], ⟨fun j => match j with | 0 => h0 | 1 => q8 | 2 => q16 | 3 => q24 | 4 => q32 | 8 => q41 | 10 => q50 | 11 => q59 | 13 => q71 | 14 => q78 | 15 => q86 | 16 => q94 | _ => 0, fun j => match j with | 0 => cq8 | 1 => cq16 | 2 => cq24 | 3 => cq32 | 7 => cq41 | 9 => cq50 | 10 => cq59 | 12 => cq71 | 13 => cq78 | 14 => cq86 | 15 => cq94 | _ => cq8, rfl, rfl, rfl⟩, by rw [ht]; exact hP, va_K.moved hW.alike hK, hD⟩, hS.F ht⟩) hS.2.2 e_M_init_140
