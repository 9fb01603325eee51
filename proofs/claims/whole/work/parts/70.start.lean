/-! THE CLAIM OUT OF ONE WALK OF THE LAW'S BODY. Your part is whole_start (and what it stands on); all else here is the same for every law, but numbers. -/
def R_law : String := "MixRoundsLaw"
def lw_P (b : Addr) (xs : List Int32) (args : Array Value) (s : State) : Prop := args = #[.ref b] ∧ s.IntsAt b xs ∧ xs.length ≤ 3072 ∧ (Jvm.Cond.and given_1 narrow_1).before args s = true
def lw_Q (_ : Array Value) (s : State) (o : Outcome) (t : State) : Prop := o = .returned (some (.int 1)) ∧ Framed s o t [] 600000 7302250
def lw_Z (below : List Frame) (a : Array Value) (s : State) : State → Prop := fun t => ∃ o, t.status = .running ∧ Ended t below o ∧ lw_Q a s o t
/-- the law's own end, with 1 on the stack, nothing written that was there before, its room as the claim has it -/
theorem lw_ret {p : Program} {l : Launch} {e : Env} {s : State} {m : MethodId} {below : List Frame} {meth : Method} {c : Code} {b : Nat} (hx : p.tables.exec = Jvm.exec) (hb : c.code = code) (hr : meth.sig.returnType = ret) (hlocks : meth.locks = false) {pc : Nat} {H : Heap} {ls : Array Slot} (hdg : decode code pc = .ok (.ireturn, 1)) : W p l e room_1 s m #[Value.ref b] below meth c H [] 600000 7302250 (lw_Z below #[Value.ref b] s) (F0 m pc ls [.int 1]) := by
  intro T hT X
  obtain ⟨fs, hret, hrun, hended, hW, hframe⟩ := X.leave (v := some (.int 1)) (hlocks := hlocks) (fun h => by rw [hr] at h; cases h)
  have hmeth' : T.vm.method? m = some meth := X.method'
  refine ⟨T.setFrames fs, ?_, .returned (some (.int 1)), hrun, hended, rfl, ⟨_, rfl⟩, hW, hframe⟩
  jvm_step X.here [X.here.top, hx, hb, hdg, hmeth', hr, ret, narrow_b1]
  (try refine ⟨rfl, ?_⟩); (try refine ⟨rfl, ?_⟩)
  first | (intro acts; rw [hret _ acts rfl rfl rfl]) | rw [hret _ _ rfl rfl rfl]
  exact Steps.refl _
/-- what holds at the law's entry: the machine, the code, the tables' words (any of lw_tbl by 'hts w (by decide +kernel)'), the script of L ints xs at the cell b, what the Statement gives of the start (any of its parts by flat_of_before) -/
def lw_At (p : Program) (s : State) (m : MethodId) (meth : Method) (c : Code) (b L : Nat) (xs : Nat → Int32) : Prop :=
  p.tables.exec = Jvm.exec ∧ c.code = code ∧ meth.sig.returnType = ret ∧ c.maxLocals = 4 ∧ s.vm.findClass R_law = some m.cls ∧ (∀ w ∈ lw_tbl, w.before #[Value.ref b] s = true) ∧ va_X b L xs s s.heap ∧ b < s.heap.size ∧ meth.locks = false ∧ (Jvm.Cond.and given_1 narrow_1).before #[Value.ref b] s = true
theorem ci_L_X : CI k_L_law k_X_init 4 7 7 9 fsX := ⟨TX5, tyX5, rfl, iw_X, tyX5_ok, by decide +kernel, (tb_at 53 (by decide +kernel) (by decide +kernel)), (tb_at 54 (by decide +kernel) (by decide +kernel)), Or.inl (tb_at 55 (by decide +kernel) (by decide +kernel)), m_X_init, rfl, (tb_at 56 (by decide +kernel) (by decide +kernel)), by decide +kernel, rfl⟩
theorem ci_L_M : CI k_L_law k_M_init 5 16 10 12 fsM := ⟨TX6, tyX6, rfl, iw_M, tyX6_ok, by decide +kernel, (tb_at 591 (by decide +kernel) (by decide +kernel)), (tb_at 592 (by decide +kernel) (by decide +kernel)), Or.inl (tb_at 593 (by decide +kernel) (by decide +kernel)), m_M_init, rfl, (tb_at 594 (by decide +kernel) (by decide +kernel)), by decide +kernel, rfl⟩
theorem e_L_law_0 : decode k_L_law.2.2.1 0 = .ok (.new 7, 3) := by decide +kernel
theorem e_L_law_3 : decode k_L_law.2.2.1 3 = .ok (.dup, 1) := by decide +kernel
theorem e_L_law_4 : decode k_L_law.2.2.1 4 = .ok (.invokespecial 9, 3) := by decide +kernel
theorem e_L_law_7 : decode k_L_law.2.2.1 7 = .ok (.astore_n 1, 1) := by decide +kernel
theorem e_L_law_8 : decode k_L_law.2.2.1 8 = .ok (.new 10, 3) := by decide +kernel
theorem e_L_law_11 : decode k_L_law.2.2.1 11 = .ok (.dup, 1) := by decide +kernel
theorem e_L_law_12 : decode k_L_law.2.2.1 12 = .ok (.invokespecial 12, 3) := by decide +kernel
theorem e_L_law_15 : decode k_L_law.2.2.1 15 = .ok (.astore_n 2, 1) := by decide +kernel
theorem e_L_law_16 : decode k_L_law.2.2.1 16 = .ok (.iconst 0, 1) := by decide +kernel
theorem e_L_law_17 : decode k_L_law.2.2.1 17 = .ok (.istore_n 3, 1) := by decide +kernel
set_option maxHeartbeats 4000000 in
set_option maxRecDepth 100000 in
theorem whole_start {p : Program} {e : Env} {s : State} {m : MethodId} {below : List Frame} {meth : Method} {c : Code} (l : Launch) (hflags : l.flags = flags0) {b L : Nat} {xs : Nat → Int32} (hL : L ≤ 3072) (C0 : lw_At p s m meth c b L xs) : W p l e room_1 s m #[Value.ref b] below meth c s.heap [] 0 0 (lw_Z below #[Value.ref b] s) (entryFrame m ([Value.ref b] : List Value).toArray 4) := by
  obtain ⟨hx, hb, hr, hml, hown, hts, hX, hbl, hlocks, hgv⟩ := id C0
  have hts' : ∀ w ∈ tb, w.before #[Value.ref b] s = true := fun w hw => hts w (List.mem_filter.mp hw).1
  obtain ⟨tl, hZl, hTl⟩ := st_least hts hgv
  obtain ⟨tm, hZm, hTm⟩ := st_most hts hgv
  obtain ⟨tf, hIK⟩ := st_first hts hgv
  have hNW := st_nw hts
  obtain ⟨c0, i0, hK0⟩ := u_known (C := RX0) (T := TX0) (N := 13) (n := 13) hts' iw_B (hts' (.instantiable RX0 13) (tb_at 62 (by decide +kernel) (by decide +kernel)))
  obtain ⟨c1, i1, hK1⟩ := u_known (C := RX1) (T := TX1) (N := 3) (n := 3) hts' iw_P (hts' (.instantiable RX1 3) (tb_at 128 (by decide +kernel) (by decide +kernel)))
  obtain ⟨c2, i2, hK2⟩ := u_known (C := RX2) (T := TX2) (N := 3) (n := 3) hts' iw_H (hts' (.instantiable RX2 3) (tb_at 175 (by decide +kernel) (by decide +kernel)))
  obtain ⟨c3, i3, hK3⟩ := u_known (C := RX3) (T := TX3) (N := 5) (n := 5) hts' iw_T (hts' (.instantiable RX3 5) (tb_at 148 (by decide +kernel) (by decide +kernel)))
  obtain ⟨c4, i4, hK4⟩ := u_known (C := RX5) (T := TX5) (N := 7) (n := 7) hts' iw_X (hts' (.instantiable RX5 7) (tb_at 54 (by decide +kernel) (by decide +kernel)))
  obtain ⟨c5, i5, hK5⟩ := u_known (C := RX6) (T := TX6) (N := 16) (n := 16) hts' iw_M (hts' (.instantiable RX6 16) (tb_at 592 (by decide +kernel) (by decide +kernel)))
  obtain ⟨D, hKc⟩ : ∃ D : va_G, ∀ (k : Nat) (q : vw_C), vwCl[k]? = some q → u_Kn s q.1 q.2.1 q.2.2 (D.1 k) (D.2 k) := by
    refine ⟨(fun k => if k = 0 then c0 else if k = 1 then c1 else if k = 2 then c2 else if k = 3 then c3 else if k = 4 then c4 else c5, fun k => if k = 0 then i0 else if k = 1 then i1 else if k = 2 then i2 else if k = 3 then i3 else if k = 4 then i4 else i5), ?_⟩
    intro k q hq
    match k, hq with
    | 0, hq => cases hq; exact hK0
    | 1, hq => cases hq; exact hK1
    | 2, hq => cases hq; exact hK2
    | 3, hq => cases hq; exact hK3
    | 4, hq => cases hq; exact hK4
    | 5, hq => cases hq; exact hK5
    | k + 6, hq => simp [vwCl] at hq
  have hA : ∀ q : Nat, s.heap.size ≤ q → (fun q : Nat => s.heap.size ≤ q) q := fun _ h => h
  have X : Ctx k_L_law p room_1 s m #[Value.ref b] c s.heap.size tf (fun q => s.heap.size ≤ q) := ⟨hx, hb, hml, hown, hts', hIK, hA, fun _ h => h⟩
  have hS : va_S (fun q : Nat => s.heap.size ≤ q) s.heap s.heap [] := va_S.rf
  have hK : va_K D vwCl [] s := ⟨hKc, fun k q h => by simp at h⟩
  have hP : va_P D vwCl [] s.heap := fun k q h => by simp at h
  have hD : va_D (fun q : Nat => s.heap.size ≤ q) [] := ⟨fun i j p q h => by simp at h, fun k q h => by simp at h⟩
  have hl := lv_entry ([.ref b]) (n := 4) (Nat.le_of_ble_eq_true rfl)
  rw [lg_entry_eq]
  generalize (lg_sl ([.ref b]) ++ List.replicate (4 - (lg_sl ([.ref b])).length) Slot.unset).toArray = ls at hl ⊢
  have hl : lv_has ls 4 [(0, .ref b)] := hl
  refine mkI X ci_L_X (i_X_init l D) e_L_law_0 e_L_law_3 e_L_law_4 ⟨by decide, by decide⟩ (Nat.le_of_ble_eq_true rfl) (Nat.le_of_ble_eq_true rfl) (Nat.le_of_ble_eq_true rfl) hl.1 hK hP hD hS (fun h0 w1 t1 H locs hM1 hP hD hK hS => ?_)
  refine lv_astore_n (lv' := [(1, .ref h0), (0, .ref b)]) hx hb e_L_law_7 rfl hl (by decide) rfl (fun ls hl => ?_)
  refine mkI X ci_L_M (i_M_init l D) e_L_law_8 e_L_law_11 e_L_law_12 ⟨by decide, by decide⟩ (Nat.le_of_ble_eq_true rfl) (Nat.le_of_ble_eq_true rfl) (Nat.le_of_ble_eq_true rfl) hl.1 hK hP hD hS (fun hm w2 t2 H locs hM2 hP hD hK hS => ?_)
  refine lv_astore_n (lv' := [(2, .ref hm), (1, .ref h0), (0, .ref b)]) hx hb e_L_law_15 rfl hl (by decide) rfl (fun ls hl => ?_)
  refine lv_iconst (v := 0) hx hb e_L_law_16 (by decide) ?_
  refine lv_istore_n (lv' := [(3, .int 0), (2, .ref hm), (1, .ref h0), (0, .ref b)]) hx hb e_L_law_17 rfl hl (by decide) rfl (fun ls hl => ?_)
  obtain ⟨a1, a2, a3, a4, a5, q, cq, v1, v2, v3, v4, v5, y1, y2, y3, y4, y5, R, Kf, ⟨r1, k1, rfl, rfl, rfl⟩, ⟨q2, cq2, R2, K2, rfl, rfl⟩, ⟨r3, k3, rfl, rfl, rfl⟩, ⟨q4, cq4, R4, K4, rfl, rfl⟩, ⟨r5, k5, rfl, rfl, rfl⟩, rfl, rfl⟩ := hM1
  obtain ⟨rM, kM, rfl, rfl, rfl⟩ := hM2
  have hP : va_P D vwCl (WWG h0 q a2 q2 a4 q4 r1 r3 r5 rM R2 R4 R cq cq2 cq4 k1 k3 k5 kM K2 K4 Kf) H := hP
  have hD : va_D (fun q : Nat => s.heap.size ≤ q) (WWG h0 q a2 q2 a4 q4 r1 r3 r5 rM R2 R4 R cq cq2 cq4 k1 k3 k5 kM K2 K4 Kf) := hD
  have hK : va_K D vwCl (TTG cq cq2 cq4 k1 k3 k5 kM K2 K4 Kf) s := hK
  refine W.widen (k := 600000) (n := 7302250) (Nat.le_of_ble_eq_true rfl) (Nat.le_of_ble_eq_true rfl) ?_
  have aH := asmH (A := fun q : Nat => s.heap.size ≤ q) l (fun n => if n = 0 then tl else tm) b L xs hP
  have aR := asmR (D := D) l (fun n => if n = 0 then tl else tm) b L xs hD
  have aK := asmK (h0 := h0) (q := q) (a2 := a2) (q2 := q2) (a4 := a4) (q4 := q4) (r1 := r1) (r3 := r3) (r5 := r5) (rM := rM) (R2 := R2) (R4 := R4) (R := R) (A := fun q : Nat => s.heap.size ≤ q) l (fun n => if n = 0 then tl else tm) b L xs hK
  have aL : lvH ls 4 (LvL (l, rhoG h0 q a2 q2 a4 q4 r1 r3 r5 rM R2 R4 R, (fun q : Nat => s.heap.size ≤ q), D, casG cq cq2 cq4 k1 k3 k5 kM K2 K4 Kf, (fun n => if n = 0 then tl else tm), b, L, xs) 0) := lv_sub hl [3, 2, 1, 0] rfl
  have hgo := law_loop (G := (l, rhoG h0 q a2 q2 a4 q4 r1 r3 r5 rM R2 R4 R, (fun q : Nat => s.heap.size ≤ q), D, casG cq cq2 cq4 k1 k3 k5 kM K2 K4 Kf, (fun n => if n = 0 then tl else tm), b, L, xs)) hL L 0 S0 (by show (L : Int) - 0 ≤ (L : Int); omega) (Int.le_refl 0) (Int.natCast_nonneg L) INV0
  refine hgo p e room_1 s m #[Value.ref b] below meth c 600000 7302250 _ H locs ls ⟨hx, hb, hml, hown, hts', ⟨aK, aR, ⟨⟨hZl, hTl⟩, ⟨hZm, hTm⟩⟩, hNW⟩, ⟨by decide, by decide⟩, fun _ => ⟨hX, hbl, Nat.not_le.mpr hbl⟩⟩ (Nat.le_refl _) (Nat.le_refl _) ?_ aL aH hS
  intro r S' H' locs' pc' ls' hpost hrt hP' hS'
  obtain rfl : r = some (vI 1) := hpost
  rcases hrt with ⟨z, hz, hd, -⟩ | ⟨z, hz, -⟩ | ⟨hz, -⟩
  · refine va_forget (fun q hq => hS'.2.2 q hq) ?_
    exact lw_ret hx hb hr hlocks hd
  · cases hz
  · cases hz
