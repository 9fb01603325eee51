/-! ===== constructors ===== -/
def IA (h0 sz : Nat) : Nat → Prop := fun q => q = h0 ∨ sz ≤ q
def T4 (t : Nat) (A : Nat → Prop) (U : State) (H : Heap) : Prop := ∃ cell : Cell, H[t]? = some cell ∧ (∀ k, cell.vm ≠ .statics k) ∧ cell.vm ≠ .unknown ∧ U.vm.findClass "[I" = some cell.cls ∧ cell.slots = #[.int 0, .int 3, .int 1, .int 0] ∧ ¬ A t
theorem T4.moved {t : Nat} {A : Nat → Prop} {u U : State} {H : Heap} (hvm : u.vm.Alike U.vm) (h : T4 t A u H) : T4 t A U H := by
  obtain ⟨cell, h1, h2, h3, h4, h5⟩ := h
  exact ⟨cell, h1, h2, h3, by rw [hvm.findClass]; exact h4, h5⟩
theorem T4.kept {t : Nat} {A : Nat → Prop} {U : State} {H H1 : Heap} (h : T4 t A U H) (hq : ∀ a : Nat, a < H.size → ¬ A a → H1[a]? = H[a]?) : T4 t A U H1 := by
  obtain ⟨cell, h1, h2, h3, h4, h5, h6⟩ := h
  exact ⟨cell, by rw [hq t (Array.getElem?_eq_some_iff.mp h1).1 h6]; exact h1, h2, h3, h4, h5, h6⟩
def NIl : List Cond := [.fieldLinkNest "MixRounds$Book" 9 "MixRounds" "AT_FIRST" "[I" "MixRounds", .castable "[I" "java/lang/Cloneable", .methodLinkNest "MixRounds" 11 yX0_init "MixRounds", .methodLinkNest "MixRounds$Past" 24 yX0_init "MixRounds", .methodLinkNest "MixRounds" 35 yX3_init "MixRounds", .methodLinkNest "MixRounds" 46 yX2_init "MixRounds"]
def IK (b0 t0 : Nat) (U : State) : Prop := va_Z "MixRounds" "AT_FIRST" "[I" (.ref t0) (fun q => b0 ≤ q) U U.heap ∧ T4 t0 (fun q => b0 ≤ q) U U.heap ∧ (∀ w ∈ NIl, va_Nw w U) ∧ va_AO "MixRounds$Book" U ∧ va_AO "MixRounds$Sheet" U
theorem NIl.warm {s U : State} (hW : s.WarmedH U.vm) (h : ∀ w ∈ NIl, va_Nw w s) : ∀ w ∈ NIl, va_Nw w U := by
  intro w hw
  have h0 := h w hw
  simp only [NIl, List.mem_cons, List.not_mem_nil, or_false] at hw
  rcases hw with rfl | rfl | rfl | rfl | rfl | rfl
  · exact va_Nw.warmF hW h0
  · exact va_Nw.warmC hW h0
  · exact va_Nw.warmM hW h0
  · exact va_Nw.warmM hW h0
  · exact va_Nw.warmM hW h0
  · exact va_Nw.warmM hW h0
theorem IK.to {b0 t0 : Nat} {u U : State} (h : IK b0 t0 u) (hW : u.WarmedH U.vm) (hS : ∀ a : Nat, a < u.heap.size → ¬ b0 ≤ a → U.heap[a]? = u.heap[a]?) : IK b0 t0 U :=
  ⟨(h.1.kept hS).moved hW.alike, (h.2.1.kept hS).moved hW.alike, NIl.warm hW h.2.2.1, h.2.2.2.1.moved hW.alike, h.2.2.2.2.moved hW.alike⟩
theorem IK.calling {b0 t0 : Nat} {U : State} (h : IK b0 t0 U) (g : JFrame) (mk : MethodId) (a : Array Value) : IK b0 t0 (U.calling g mk a) :=
  ⟨va_Z.moved (u := U) (U := U.calling g mk a) (Vm.Alike.refl U.vm) h.1, T4.moved (u := U) (U := U.calling g mk a) (Vm.Alike.refl U.vm) h.2.1, fun w hw => va_Nw.same (u := U) (U := U.calling g mk a) (by
    simp only [NIl, List.mem_cons, List.not_mem_nil, or_false] at hw
    rcases hw with rfl | rfl | rfl | rfl | rfl | rfl <;> rfl) rfl (h.2.2.1 w hw), va_AO.moved (u := U) (U := U.calling g mk a) (Vm.Alike.refl U.vm) h.2.2.2.1, va_AO.moved (u := U) (U := U.calling g mk a) (Vm.Alike.refl U.vm) h.2.2.2.2⟩
def rmI (n mc ms : Nat) : Room := { frames := n, cells := mc, slots := ms, locals := 40 * n }
def PI0 (D : va_G) (ci : Nat) (fs : List Value) (b0 t0 h0 sz : Nat) : Array Value → State → Prop := va_Pc [.ref h0] (fun U => U.heap.size = sz ∧ va_P D vwCl [(h0, .inr (ci, fs))] U.heap ∧ va_K D vwCl [] U ∧ IK b0 t0 U)
def QI0 (D : va_G) (Made : Nat → va_W → List (ClassId × FieldType) → Prop) (h0 sz : Nat) : Array Value → State → Outcome → State → Prop := va_Qv (fun _ : Unit => True) (fun _ t => ∃ (w : va_W) (ty : List (ClassId × FieldType)), Made h0 w ty ∧ va_P D vwCl w t.heap ∧ va_K D vwCl ty t ∧ va_D (IA h0 sz) w) (IA h0 sz)
def Ini (l : Launch) (D : va_G) (y : MKT) (ci : Nat) (fs : List Value) (mc ms : Nat) (Made : Nat → va_W → List (ClassId × FieldType) → Prop) : Prop :=
  ∀ b0 t0 h0 sz : Nat, b0 ≤ h0 → b0 ≤ sz → Met l y.2.1 (wsG y) (rmI y.2.2.2.2.2 mc ms) (PI0 D ci fs b0 t0 h0 sz) (QI0 D Made h0 sz) mc ms (IA h0 sz)
theorem PI0.blind {D : va_G} {ci : Nat} {fs : List Value} {b0 t0 h0 sz : Nat} : FrameBlind (PI0 D ci fs b0 t0 h0 sz) := by
  intro a U g mk h
  obtain ⟨q0, q1, qP, qK, qI⟩ := h
  exact ⟨q0, q1, qP, va_K.moved (u := U) (U := U.calling g mk a) (Vm.Alike.refl U.vm) qK, qI.calling g mk a⟩
theorem va_D.left {A : Nat → Prop} {w v : va_W} (h : va_D A (w ++ v)) : va_D A w := by
  have e : ∀ (i : Nat) (x : Nat × va_E), w[i]? = some x → (w ++ v)[i]? = some x := fun i x hx => by
    rw [List.getElem?_append_left (List.getElem?_eq_some_iff.mp hx).1]; exact hx
  exact ⟨fun i j x y hx hy hxy => h.1 i j x y (e i x hx) (e j y hy) hxy, fun k x hx => h.2 k x (e k x hx)⟩
theorem vjoin {A0 : Nat → Prop} {D : va_G} {cl : List vw_C} {wr w1 : va_W} {H H1 : Heap} {q0 : Nat} {e : va_E} (hP : va_P D cl (wr ++ [(q0, e)]) H) (hD : va_D A0 (wr ++ [(q0, e)])) (hk : ∀ q : Nat, q < H.size → ¬ IA q0 H.size q → H1[q]? = H[q]?) (hF : ∀ q, IA q0 H.size q → A0 q) (hP1 : va_P D cl w1 H1) (hD1 : va_D (IA q0 H.size) w1) : va_P D cl (wr ++ w1) H1 ∧ va_D A0 (wr ++ w1) := by
  have el : ∀ (i : Nat) (x : Nat × va_E), wr[i]? = some x → (wr ++ [(q0, e)])[i]? = some x := fun i x hx => by
    rw [List.getElem?_append_left (List.getElem?_eq_some_iff.mp hx).1]; exact hx
  have eq : (wr ++ [(q0, e)])[wr.length]? = some (q0, e) := by simp
  have ap : ∀ (i : Nat) (x : Nat × va_E), wr[i]? = some x → x.1 < H.size ∧ ¬ IA q0 H.size x.1 := fun i x hx => by
    have hlt := (hP i x (el i x hx)).lt
    refine ⟨hlt, fun h => ?_⟩
    rcases h with h | h
    · have := hD.1 i wr.length x (q0, e) (el i x hx) eq h
      have h2 := (List.getElem?_eq_some_iff.mp hx).1
      omega
    · omega
  refine ⟨va_P.app (fun k x hx => (hP k x (el k x hx)).kept (hk x.1 (ap k x hx).1 (ap k x hx).2)) hP1, va_D.app hD.left (hD1.weaken (fun k x _ h => hF x.1 h)) (fun i j x y hx hy hxy => ?_)⟩
  exact (ap i x hx).2 (by rw [hxy]; exact hD1.2 j y hy)
def Ctx (q : MKT) (p : Program) (R : Room) (s : State) (m : MethodId) (args : Array Value) (c : Code) (b0 t0 : Nat) (A : Nat → Prop) : Prop :=
  p.tables.exec = Jvm.exec ∧ c.code = q.2.2.1 ∧ c.maxLocals = q.2.2.2.1 ∧ s.vm.findClass q.1 = some m.cls ∧ (∀ w ∈ tb, w.before args s = true) ∧ IK b0 t0 s ∧ (∀ a, s.heap.size ≤ a → A a) ∧ (∀ a, A a → b0 ≤ a)
/-- the words that a class is made by -/
def CI (q : MKT) (y : MKT) (ci N i1 i2 : Nat) (fs : List Value) : Prop := ∃ (T : u_T) (ty : Nat → FieldType), vwCl[ci]? = some (y.2.1.cls, T, N) ∧ (∀ w ∈ u_ws y.2.1.cls T N, w ∈ tb) ∧ (∀ k, k < N → parseFieldDescriptor (T k).2.2.1 = some (ty k)) ∧ (∀ j, j < N → defaultValue (ty j) = vp_V fs j) ∧ Cond.classLink q.1 i1 y.2.1.cls ∈ tb ∧ Cond.instantiable y.2.1.cls N ∈ tb ∧ (Cond.methodLink q.1 i2 y.2.1 ∈ tb ∨ Cond.methodLinkNest q.1 i2 y.2.1 "MixRounds" ∈ NIl) ∧ CM y ∧ y.2.1.name = "<init>" ∧ Cond.instanceMethod y.2.1 ∈ tb ∧ (parseMethodDescriptor y.2.1.desc).map (fun d => d.parameters.length) = some 0 ∧ y.2.2.2.2.1 = none
section Mk
variable {l : Launch} {D : va_G} {q y : MKT} {p : Program} {e : Env} {R : Room} {s : State} {m : MethodId} {args : Array Value} {below : List Frame} {meth : Method} {c : Code} {b0 t0 : Nat} {A : Nat → Prop} {ci N i1 i2 mc ms pc cells slots : Nat} {fs : List Value} {Made : Nat → va_W → List (ClassId × FieldType) → Prop} {ws : va_W} {tys : List (ClassId × FieldType)} {H : Heap} {locs : List Loc} {ls : Array Slot} {rest : List Value} {Q : State → Prop}
set_option maxHeartbeats 2000000 in
theorem mkI (X : Ctx q p R s m args c b0 t0 A) (hC : CI q y ci N i1 i2 fs) (hI : Ini l D y ci fs mc ms Made) (d1 : decode q.2.2.1 pc = .ok (.new i1, 3)) (d2 : decode q.2.2.1 (pc + 3) = .ok (.dup, 1)) (d3 : decode q.2.2.1 (pc + 3 + 1) = .ok (.invokespecial i2, 3))
    (hR : y.2.2.2.2.2 + 1 ≤ R.frames ∧ 8 + (y.2.2.2.1 + 11) + 40 * y.2.2.2.2.2 ≤ R.locals) (hcells : cells + 1 + mc ≤ R.cells) (hslots : slots + N + ms ≤ R.slots) (hst : 1 + (rest.map fun v => v.category).sum ≤ 8) (hl : ls.size = q.2.2.2.1)
    (hK : va_K D vwCl tys s) (hP : va_P D vwCl ws H) (hD : va_D A ws) (hS : va_S A s.heap H locs)
    (kk : ∀ (h0 : Nat) (w : va_W) (ty : List (ClassId × FieldType)) (H1 : Heap) (locs1 : List Loc), Made h0 w ty → va_P D vwCl (ws ++ w) H1 → va_D A (ws ++ w) → va_K D vwCl (tys ++ ty) s → va_S A s.heap H1 locs1 → W p l e R s m args below meth c H1 locs1 (cells + 1 + mc) (slots + N + ms) Q (F0 m (pc + 3 + 1 + 3) ls (.ref h0 :: rest))) : W p l e R s m args below meth c H locs cells slots Q (F0 m pc ls rest) := by
  obtain ⟨hx, hb, hml, hown, hts, hIK, hA, hAb⟩ := id X
  obtain ⟨T, ty, c1, c2, c3, c4, c5, c6, c7, c8, c9, c10, c11, c12⟩ := hC
  obtain ⟨v1, v2, v3, v4⟩ := id c8
  refine va_new (ci := ci) (fs := fs) (C := y.2.1.cls) (T := T) (N := N) hx hb hts c2 ty c3 hown (hts _ c5) (hts _ c6) (hts _ v2) hK hP hD hS hA c1 c4 (by omega) (by omega) d1 (fun h0 H1 hP1 hD1 hS1 => ?_)
  refine lv_dup hx hb d2 rfl ?_
  have eq : (ws ++ [(h0, (.inr (ci, fs) : va_E))])[ws.length]? = some (h0, .inr (ci, fs)) := by simp
  have hP2 : va_P D vwCl [(h0, .inr (ci, fs))] H1 := by
    intro k x hx
    have hz : k < 1 := (List.getElem?_eq_some_iff.mp hx).1
    rw [show k = 0 by omega] at hx
    cases hx
    exact hP1 _ _ eq
  have hA0 : A h0 := hD1.2 _ _ eq
  have hFc : ∀ a, IA h0 H1.size a → A a := by
    intro a h
    rcases h with rfl | h
    · exact hA0
    · exact hA a (Nat.le_trans hS1.1 h)
  have hb0 : b0 ≤ H1.size := Nat.le_trans (hAb _ (hA _ (Nat.le_refl _))) hS1.1
  have hpre : PreS s H1 (PI0 D ci fs b0 t0 h0 H1.size) [.ref h0] := ⟨PI0.blind, fun U hU hW => ⟨rfl, by rw [hU], by rw [hU]; exact hP2, va_K.moved hW.alike (hK.sub [] rfl), hIK.to hW (fun a h1 h2 => by rw [hU]; exact hS1.2.1 a h1 (fun z => h2 (hAb a z)))⟩⟩
  have hM := hI b0 t0 h0 H1.size (hAb _ hA0) hb0
  have hwsE : wsG y = Cond.code y.2.1 y.2.2.1 y.2.2.2.1 none :: tb := by unfold wsG; rw [c12]
  have hr : va_Run p l e R s m args below meth c H1 locs (cells + 1) (slots + N) mc ms (F0 m (pc + 3 + 1) ls (.ref h0 :: .ref h0 :: rest)) (.ref h0 :: rest) (QI0 D Made h0 H1.size [.ref h0].toArray) (IA h0 H1.size) := by
    have hst2 : ((Value.ref h0 :: rest).map fun v => v.category).sum ≤ 8 := by simpa [Value.category] using hst
    rcases c7 with c7 | c7
    · exact va_runI (As := []) (rest := .ref h0 :: rest) ⟨hx, hb, hml, hown, hts⟩ hM ⟨callB_of (ws' := tb) 0 hts (tb_in c8) hwsE rfl rfl (hts _ v2) (hts _ c7) ⟨v3.1, v3.2, c11⟩ hR, c9, hts _ c10⟩ hpre rfl rfl hl rfl (lv_room hst2) d3 ⟨hcells, hslots⟩
    · exact va_runIN (As := []) (rest := .ref h0 :: rest) (host := "MixRounds") ⟨hx, hb, hml, hown, hts⟩ hM ⟨va_cnB (ws' := tb) 0 hts (tb_in c8) hwsE rfl rfl (hIK.2.2.1 _ c7) (hts _ v2) ⟨v3.1, v3.2, c11⟩ hR, c9, hts _ c10⟩ hpre rfl rfl hl rfl (lv_room hst2) d3 ⟨hcells, hslots⟩
  refine va_callv hr hS1 (fun a _ h => hFc a h) hFc (fun _ t H2 locs2 ht hvm _ hB hz hk hS2 => ?_)
  obtain ⟨w, ty', hMd, hPw, hKw, hDw⟩ := hB
  rw [ht] at hPw
  obtain ⟨hP3, hD3⟩ := vjoin hP1 hD1 hk hFc hPw hDw
  exact kk h0 w ty' H2 locs2 hMd hP3 hD3 (hK.app (va_K.moved hvm.symm hKw)) hS2
def told0 : Nat → Int32 := fun j => if j = 1 then 3 else if j = 2 then 1 else 0
set_option maxHeartbeats 2000000 in
/-- a copy of the first told row -/
theorem cl4 (X : Ctx q p R s m args c b0 t0 A) (d : decode q.2.2.1 pc = .ok (.invokevirtual i1, 3)) (hlink : Cond.methodLink q.1 i1 ⟨"[I", "clone", "()Ljava/lang/Object;"⟩ ∈ tb) (hl : ls.size = q.2.2.2.1) (hframes : 1 ≤ R.frames) (hlocals : (rest.map fun v => v.category).sum + 14 ≤ R.locals) (hcells : cells + 1 ≤ R.cells) (hslots : slots + 4 ≤ R.slots)
    (hK : va_K D vwCl tys s) (hP : va_P D vwCl ws H) (hD : va_D A ws) (hS : va_S A s.heap H locs)
    (kk : ∀ (h0 : Nat) (cA : ClassId) (H1 : Heap), va_K D vwCl (tys ++ [(cA, .int)]) s → va_P D vwCl (ws ++ [(h0, .inl (cA, 4, .inl told0))]) H1 → va_D A (ws ++ [(h0, .inl (cA, 4, .inl told0))]) → va_S A s.heap H1 locs → W p l e R s m args below meth c H1 locs (cells + 1) (slots + 4) Q (F0 m (pc + 3) ls (.ref h0 :: rest))) : W p l e R s m args below meth c H locs cells slots Q (F0 m pc ls (.ref t0 :: rest)) := by
  obtain ⟨hx, hb, hml, hown, hts, hIK, hA, hAb⟩ := id X
  obtain ⟨cell, g1, g2, g3, g4, g5, g6⟩ := hIK.2.1
  obtain ⟨c0, t1, f1, f2, f3⟩ := Cond.castable_spec (va_Nw.use (A := args) rfl (hIK.2.2.1 (.castable "[I" "java/lang/Cloneable") (by decide +kernel)))
  obtain ⟨cI, kI, comp, a1, a2, a3⟩ := Cond.arrayClass_spec (hts (.arrayClass .int) (tb_at 126 (by decide +kernel) (by decide +kernel)))
  have e1 : "[" ++ FieldType.int.toString = "[I" := by decide +kernel
  rw [e1] at a1
  have hcls : cI = cell.cls := Option.some.inj (a1.symm.trans g4)
  subst hcls
  cases g4.symm.trans f1
  have hH : H[t0]? = some cell := by rw [hS.2.1 t0 (Array.getElem?_eq_some_iff.mp g1).1 (fun z => g6 (hAb _ z))]; exact g1
  intro T hT XX
  have hcellT : T.heap[t0]? = some cell := by rw [hT]; exact hH
  obtain ⟨-, kA, hkA, comp2, hkind⟩ := State.isArrayOf_alike XX.warmed.alike (show s.isArrayOf (arrV cell.cls 0 (fun _ => .null)) .int from ⟨fun k h => (by cases h), kI, a2, comp, a3⟩)
  have hvA : s.vm.clonesLoader cell.cls = false := Vm.clonesLoader_of_array a2 a3
  have hsz : cell.slots.size = 4 := by rw [g5]; rfl
  obtain ⟨vm', X', st⟩ := XX.cloneArray hx hown (hts _ hlink) (hts (.sameMethod "[I" "java/lang/Object" "clone" "()Ljava/lang/Object;") (tb_at 70 (by decide +kernel) (by decide +kernel))) (hts (.native ⟨"java/lang/Object", "clone", "()Ljava/lang/Object;"⟩) (tb_at 71 (by decide +kernel) (by decide +kernel))) (hts (.instanceMethod ⟨"java/lang/Object", "clone", "()Ljava/lang/Object;"⟩) (tb_at 72 (by decide +kernel) (by decide +kernel))) (hts (.selects "[I" ⟨"[I", "clone", "()Ljava/lang/Object;"⟩ ⟨"java/lang/Object", "clone", "()Ljava/lang/Object;"⟩) (tb_at 73 (by decide +kernel) (by decide +kernel))) (a := t0) (cell := cell) hcellT g2 g3 g4 f2 f3
    (fun i v hv => by
      have hk' : T.vm.classes[cell.cls]? = some kA := hkA
      have hf : fits .int v = true := by
        rw [g5] at hv
        match i, hv with
        | 0, hv => cases hv; rfl
        | 1, hv => cases hv; rfl
        | 2, hv => cases hv; rfl
        | 3, hv => cases hv; rfl
        | i + 4, hv => simp at hv
      simpa [State.fitsSlot, State.slotType?, hk', hkind] using hf)
    (g := F0 m pc ls (.ref t0 :: rest)) rfl (by rw [hml]; exact hl) rfl (by rw [hb]; exact d) hframes (by show 2 * 0 + _ + 14 ≤ _; omega) hcells (by rw [hsz]; exact hslots) (hloader := hvA)
  have hcE : ({ cls := cell.cls, slots := cell.slots } : Cell) = vp_cell cell.cls (4, .inl told0) := by rw [g5]; rfl
  rw [hcE, hsz] at X'
  generalize hH1 : H.push (vp_cell cell.cls (4, .inl told0)) = H1
  have z1 : H1.size = H.size + 1 := by rw [← hH1, Array.size_push]
  have y1 : H1[H.size]? = some (vp_cell cell.cls (4, .inl told0)) := by rw [← hH1, Array.getElem?_push_size]
  have o1 : ∀ q : Nat, q < H.size → H1[q]? = H[q]? := fun q hq => by rw [← hH1, Array.getElem?_push, if_neg (Nat.ne_of_lt hq)]
  have hk : ∀ (k : Nat) (x : Nat × va_E), ws[k]? = some x → H1[x.1]? = H[x.1]? := fun k x hx => o1 x.1 ((hP k x hx).lt)
  have hK2 : va_K D vwCl [(cell.cls, .int)] s := ⟨hK.1, fun k x hx => by
    have hz : k < 1 := (List.getElem?_eq_some_iff.mp hx).1
    rw [show k = 0 by omega] at hx
    cases hx
    exact ⟨fun n z => ⟨fun k h => (by cases h), kI, a2, comp, a3⟩, by show s.vm.findClass _ = _; rw [e1]; exact a1⟩⟩
  obtain ⟨t, b1, b2⟩ := kk H.size cell.cls H1 (hK.app hK2) ((hP.kept hk).app (fun k x hx => by
      have hz : k < 1 := (List.getElem?_eq_some_iff.mp hx).1
      rw [show k = 0 by omega] at hx
      cases hx
      exact y1)) (hD.push hP rfl (hA _ hS.1)) ⟨Nat.le_trans hS.1 (by omega), fun x h1 h2 => (o1 x (Nat.lt_of_lt_of_le h1 hS.1)).trans (hS.2.1 x h1 h2), hS.2.2⟩
    ((T.setVm vm').pushCell (vp_cell cell.cls (4, .inl told0))) (by rw [← hH1, ← hT]; rfl) X'
  refine ⟨t, st t ?_, b2⟩
  rw [hcE, hT]
  exact b1
end Mk
