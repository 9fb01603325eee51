/-! ===== calls ===== -/
section Calls
variable {G : GT} {q : MKT} {pc n : Nat} {lv : List (Option Value)} {st : List Value} {S : St} {Post : Option Value → St → Prop}
/-- a method's own words -/
def CM (y : MKT) : Prop := Cond.code y.2.1 y.2.2.1 y.2.2.2.1 y.2.2.2.2.1 ∈ tb ∧ Cond.initialized y.2.1.cls ∈ tb ∧ (y.2.1.cls ≠ "java/lang/invoke/MethodHandle" ∧ y.2.1.cls ≠ "java/lang/invoke/VarHandle") ∧ y.2.2.2.1 ≤ 21
def DCV (q : MKT) (pc : Nat) (y : MKT) (ci na n : Nat) : Prop := ∃ idx : Nat, decode q.2.2.1 pc = .ok (.invokevirtual idx, 3) ∧ pc + 3 = n ∧ Cond.methodLink q.1 idx y.2.1 ∈ tb ∧ CM y ∧ Cond.instanceMethod y.2.1 ∈ tb ∧ Cond.selects y.2.1.cls y.2.1 y.2.1 ∈ tb ∧ (∃ r : vw_C, vwCl[ci]? = some r ∧ r.1 = y.2.1.cls) ∧ (parseMethodDescriptor y.2.1.desc).map (fun d => d.parameters.length) = some na ∧ y.2.2.2.2.2 + 1 ≤ q.2.2.2.2.2
def DCS (q : MKT) (pc : Nat) (y : MKT) (na n : Nat) : Prop := ∃ idx : Nat, decode q.2.2.1 pc = .ok (.invokestatic idx, 3) ∧ pc + 3 = n ∧ (Cond.methodLink q.1 idx y.2.1 ∈ tb ∨ ∃ host : String, (q.1, idx, y.2.1, host) ∈ NWl) ∧ CM y ∧ Cond.static y.2.1 ∈ tb ∧ (parseMethodDescriptor y.2.1.desc).map (fun d => d.parameters.length) = some na ∧ y.2.2.2.2.2 + 1 ≤ q.2.2.2.2.2
theorem tb_in {y : MKT} (h : CM y) : GoodIn tb (wsG y) := by
  intro w hw
  rcases List.mem_cons.mp hw with rfl | hw
  · exact ⟨h.1, good_of_word (tb_good h.1)⟩
  · exact ⟨hw, good_of_word (tb_good hw)⟩
theorem Pc_blind {av : List Value} : FrameBlind (PcG G av S) := by
  intro a U g mk h
  exact ⟨h.1, h.2.1, h.2.2.calling g mk a⟩
/-- behind a call -/
theorem Go_ran {y : MKT} {av st0 : List Value} {PostC : Option Value → St → Prop} {p : Program} {e : Env} {R : Room} {s : State} {m : MethodId} {args : Array Value} {below : List Frame} {meth : Method} {c : Code} {cells slots : Nat} {Q : State → Prop} {H : Heap} {locs : List Loc} {ls : Array Slot}
    (hr : va_Run p G.1 e R s m args below meth c H locs cells slots 0 0 (F0 m pc ls st0) st (QcG G PostC av.toArray) G.2.2.1) (k : ∀ r S', PostC r S' → Go G q (pc + 3) lv (r.toList ++ st) S' Post)
    (X : OkX G q p R s m args c) (hc : cells ≤ R.cells) (hs : slots ≤ R.slots)
    (K : ∀ (r : Option Value) (S' : St) (H' : Heap) (locs' : List Loc) (pc' : Nat) (ls' : Array Slot), Post r S' → Rt q pc' r → Hd G S' H' → va_S G.2.2.1 s.heap H' locs' → W p G.1 e R s m args below meth c H' locs' cells slots Q (F0 m pc' ls' r.toList))
    (hl : lvH ls q.2.2.2.1 lv) (hS : va_S G.2.2.1 s.heap H locs) : W p G.1 e R s m args below meth c H locs cells slots Q (F0 m pc ls st0) := by
  intro T hT XX
  obtain ⟨v, st₀, t, T', L, h0, X', hL, e1, e2, ⟨⟨r, S', hv, hp, hb⟩, hz, hk⟩, stp⟩ := hr T hT XX
  cases hv
  rw [h0] at hz hk
  have hS2 : va_S G.2.2.1 s.heap T'.heap (locs ++ L) := ⟨Nat.le_trans hS.1 (by rw [e1]; exact hz), fun q h1 h2 => by rw [e1, hk q (Nat.lt_of_lt_of_le h1 hS.1) h2]; exact hS.2.1 q h1 h2, fun q hq => by
      rcases List.mem_append.mp hq with h | h
      · exact hS.2.2 q h
      · exact hL q h⟩
  obtain ⟨t2, a1, b1⟩ := k v S' hp p e R s m args below meth c cells slots Q T'.heap (locs ++ L) ls X hc hs K hl (by rw [e1]; exact hb) hS2 T' rfl X'
  exact ⟨t2, stp t2 a1, b1⟩
set_option maxHeartbeats 2000000 in
theorem Go_callV {y : MKT} {c0 ci na : Nat} {As : List Value} {PostC : Option Value → St → Prop} (d : DCV q pc y ci na n) (h0 : c0 < 23 ∧ kd c0 = ci) (hlen : As.length = na) (hst : (st.map fun v => v.category).sum ≤ 8) (hF : Fn G y (oR G c0 :: As) S PostC) (k : ∀ r S', PostC r S' → Go G q n lv (r.toList ++ st) S' Post) : Go G q pc lv (As.reverse ++ oR G c0 :: st) S Post := by
  intro p e R s m args below meth c cells slots Q H locs ls X hc hs K hl hP hS
  obtain ⟨idx, hd, rfl, w1, w2, w3, w4, ⟨rr, w5, w5'⟩, w6, w7⟩ := d
  obtain ⟨hx, hb, hml, hown, hts, hK, hR, -⟩ := id X
  obtain ⟨v1, v2, v3, v4⟩ := id w2
  obtain ⟨j, -, hj⟩ := Wd_at (G := G) (S := S) (vs_obj c0 h0.1)
  have hci := h0.2
  subst hci
  have hj2 : (Wd G S)[j]? = some (G.2.1 c0 0, .inr (kd c0, fl G S c0)) := hj
  have hrv := va_recv hK.1 hP w5 hj2
  rw [w5'] at hrv
  refine Go_ran (y := y) (av := oR G c0 :: As) (PostC := PostC) ?_ k X hc hs K hl hS
  exact va_runV (As := As) (rest := st) (C := y.2.1.cls) ⟨hx, hb, hml, hown, hts⟩ hF ⟨callB_of (ws' := tb) na hts (tb_in w2) rfl rfl rfl (hts _ v2) (hts _ w1) ⟨v3.1, v3.2, w6⟩ ⟨Nat.le_trans w7 hR.1, by show 8 + (y.2.2.2.1 + 11) + 40 * y.2.2.2.2.2 ≤ R.locals; omega⟩, hts _ w3, hts _ w4⟩
    ⟨Pc_blind, hrv, fun U hU hW => ⟨rfl, by rw [hU]; exact hP, hK.to hW (fun a h1 h2 => by rw [hU]; exact hS.2.1 a h1 h2)⟩⟩ rfl hlen hl.1 rfl (lv_room hst) hd ⟨hc, hs⟩
set_option maxHeartbeats 2000000 in
theorem Go_callS {y : MKT} {na : Nat} {As : List Value} {PostC : Option Value → St → Prop} (d : DCS q pc y na n) (hlen : As.length = na) (hst : (st.map fun v => v.category).sum ≤ 8) (hF : Fn G y As S PostC) (k : ∀ r S', PostC r S' → Go G q n lv (r.toList ++ st) S' Post) : Go G q pc lv (As.reverse ++ st) S Post := by
  intro p e R s m args below meth c cells slots Q H locs ls X hc hs K hl hP hS
  obtain ⟨idx, hd, rfl, w1, w2, w3, w6, w7⟩ := d
  obtain ⟨hx, hb, hml, hown, hts, hK, hR, -⟩ := id X
  obtain ⟨v1, v2, v3, v4⟩ := id w2
  refine Go_ran (y := y) (av := As) (PostC := PostC) ?_ k X hc hs K hl hS
  have hp : PreS s H (PcG G As S) As := ⟨Pc_blind, fun U hU hW => ⟨rfl, by rw [hU]; exact hP, hK.to hW (fun a h1 h2 => by rw [hU]; exact hS.2.1 a h1 h2)⟩⟩
  have hR2 : y.2.2.2.2.2 + 1 ≤ R.frames ∧ 8 + (y.2.2.2.1 + 11) + 40 * y.2.2.2.2.2 ≤ R.locals := ⟨Nat.le_trans w7 hR.1, by omega⟩
  rcases w1 with w1 | ⟨host, w1⟩
  · exact va_runS (As := As) (rest := st) ⟨hx, hb, hml, hown, hts⟩ hF ⟨callB_of (ws' := tb) na hts (tb_in w2) rfl rfl rfl (hts _ v2) (hts _ w1) ⟨v3.1, v3.2, w6⟩ hR2, hts _ w3⟩ hp rfl hlen hl.1 rfl (lv_room hst) hd ⟨hc, hs⟩
  · exact va_runSN (As := As) (rest := st) (host := host) ⟨hx, hb, hml, hown, hts⟩ hF ⟨va_cnB (ws' := tb) na hts (tb_in w2) rfl rfl rfl (hK.2.2.2 _ w1) (hts _ v2) ⟨v3.1, v3.2, w6⟩ hR2, hts _ w3, trivial⟩ hp rfl hlen hl.1 rfl (lv_room hst) hd ⟨hc, hs⟩
/-! what a contract says: a value and nothing changed; a number and a new state; nothing and a new state -/
def PV (v : Value) (S : St) : Option Value → St → Prop := fun r S' => r = some v ∧ S' = S
def PI (f : Int → St → Prop) : Option Value → St → Prop := fun r S' => ∃ z : Int, r = some (vI z) ∧ f z S'
def PL (f : Int → St → Prop) : Option Value → St → Prop := fun r S' => ∃ z : Int, r = some (vL z) ∧ f z S'
def PN (f : St → Prop) : Option Value → St → Prop := fun r S' => r = none ∧ f S'
theorem Go_iretV {a b : Int} (d : DrI q pc) (h : a = b) : Go G q pc lv [vI a] S (PV (vI b) S) := Go_iret d ⟨by rw [h], rfl⟩
theorem Go_zretV {a b : Int} (d : DrZ q pc) (ha : a = 0 ∨ a = 1) (h : a = b) : Go G q pc lv [vI a] S (PV (vI b) S) := Go_zret d ha ⟨by rw [h], rfl⟩
theorem Go_lretV {a b : Int} (d : DrL q pc) (h : a = b) : Go G q pc lv [vL a] S (PV (vL b) S) := Go_lret d ⟨by rw [h], rfl⟩
theorem Go_iretI {a : Int} {f : Int → St → Prop} (d : DrI q pc) (h : f a S) : Go G q pc lv [vI a] S (PI f) := Go_iret d ⟨a, rfl, h⟩
theorem Go_zretI {a : Int} {f : Int → St → Prop} (d : DrZ q pc) (ha : a = 0 ∨ a = 1) (h : f a S) : Go G q pc lv [vI a] S (PI f) := Go_zret d ha ⟨a, rfl, h⟩
theorem Go_lretL {a : Int} {f : Int → St → Prop} (d : DrL q pc) (h : f a S) : Go G q pc lv [vL a] S (PL f) := Go_lret d ⟨a, rfl, h⟩
theorem Go_vretN {f : St → Prop} (d : DrV q pc) (h : f S) : Go G q pc lv [] S (PN f) := Go_vret d ⟨rfl, h⟩

theorem Go_V0p {y : MKT} {c0 ci : Nat} {v : Value} (d : DCV q pc y ci 0 n) (h0 : c0 < 23 ∧ kd c0 = ci) (hF : Fn G y (oR G c0 :: []) S (PV v S)) (hst : (st.map fun v => v.category).sum ≤ 8) (k : Go G q n lv (v :: st) S Post) : Go G q pc lv (oR G c0 :: st) S Post := Go_callV (As := []) d h0 rfl hst hF (fun r S' h => by obtain ⟨rfl, rfl⟩ := h; exact k)
theorem Go_S0p {y : MKT} {v : Value} (d : DCS q pc y 0 n) (hF : Fn G y [] S (PV v S)) (hst : (st.map fun v => v.category).sum ≤ 8) (k : Go G q n lv (v :: st) S Post) : Go G q pc lv (st) S Post := Go_callS (As := []) d rfl hst hF (fun r S' h => by obtain ⟨rfl, rfl⟩ := h; exact k)
theorem Go_V0i {y : MKT} {c0 ci : Nat} {f : Int → St → Prop} (d : DCV q pc y ci 0 n) (h0 : c0 < 23 ∧ kd c0 = ci) (hF : Fn G y (oR G c0 :: []) S (PI f)) (hst : (st.map fun v => v.category).sum ≤ 8) (k : ∀ z S', f z S' → Go G q n lv (vI z :: st) S' Post) : Go G q pc lv (oR G c0 :: st) S Post := Go_callV (As := []) d h0 rfl hst hF (fun r S' h => by obtain ⟨z, rfl, h⟩ := h; exact k z S' h)
theorem Go_S0i {y : MKT} {f : Int → St → Prop} (d : DCS q pc y 0 n) (hF : Fn G y [] S (PI f)) (hst : (st.map fun v => v.category).sum ≤ 8) (k : ∀ z S', f z S' → Go G q n lv (vI z :: st) S' Post) : Go G q pc lv (st) S Post := Go_callS (As := []) d rfl hst hF (fun r S' h => by obtain ⟨z, rfl, h⟩ := h; exact k z S' h)
theorem Go_V0l {y : MKT} {c0 ci : Nat} {f : Int → St → Prop} (d : DCV q pc y ci 0 n) (h0 : c0 < 23 ∧ kd c0 = ci) (hF : Fn G y (oR G c0 :: []) S (PL f)) (hst : (st.map fun v => v.category).sum ≤ 8) (k : ∀ z S', f z S' → Go G q n lv (vL z :: st) S' Post) : Go G q pc lv (oR G c0 :: st) S Post := Go_callV (As := []) d h0 rfl hst hF (fun r S' h => by obtain ⟨z, rfl, h⟩ := h; exact k z S' h)
theorem Go_S0l {y : MKT} {f : Int → St → Prop} (d : DCS q pc y 0 n) (hF : Fn G y [] S (PL f)) (hst : (st.map fun v => v.category).sum ≤ 8) (k : ∀ z S', f z S' → Go G q n lv (vL z :: st) S' Post) : Go G q pc lv (st) S Post := Go_callS (As := []) d rfl hst hF (fun r S' h => by obtain ⟨z, rfl, h⟩ := h; exact k z S' h)
theorem Go_V0n {y : MKT} {c0 ci : Nat} {f : St → Prop} (d : DCV q pc y ci 0 n) (h0 : c0 < 23 ∧ kd c0 = ci) (hF : Fn G y (oR G c0 :: []) S (PN f)) (hst : (st.map fun v => v.category).sum ≤ 8) (k : ∀ S', f S' → Go G q n lv st S' Post) : Go G q pc lv (oR G c0 :: st) S Post := Go_callV (As := []) d h0 rfl hst hF (fun r S' h => by obtain ⟨rfl, h⟩ := h; exact k S' h)
theorem Go_S0n {y : MKT} {f : St → Prop} (d : DCS q pc y 0 n) (hF : Fn G y [] S (PN f)) (hst : (st.map fun v => v.category).sum ≤ 8) (k : ∀ S', f S' → Go G q n lv st S' Post) : Go G q pc lv (st) S Post := Go_callS (As := []) d rfl hst hF (fun r S' h => by obtain ⟨rfl, h⟩ := h; exact k S' h)
theorem Go_V1p {y : MKT} {c0 ci : Nat} {a1 : Value} {v : Value} (d : DCV q pc y ci 1 n) (h0 : c0 < 23 ∧ kd c0 = ci) (hF : Fn G y (oR G c0 :: [a1]) S (PV v S)) (hst : (st.map fun v => v.category).sum ≤ 8) (k : Go G q n lv (v :: st) S Post) : Go G q pc lv (a1 :: oR G c0 :: st) S Post := Go_callV (As := [a1]) d h0 rfl hst hF (fun r S' h => by obtain ⟨rfl, rfl⟩ := h; exact k)
theorem Go_S1p {y : MKT} {a1 : Value} {v : Value} (d : DCS q pc y 1 n) (hF : Fn G y [a1] S (PV v S)) (hst : (st.map fun v => v.category).sum ≤ 8) (k : Go G q n lv (v :: st) S Post) : Go G q pc lv (a1 :: st) S Post := Go_callS (As := [a1]) d rfl hst hF (fun r S' h => by obtain ⟨rfl, rfl⟩ := h; exact k)
theorem Go_V1i {y : MKT} {c0 ci : Nat} {a1 : Value} {f : Int → St → Prop} (d : DCV q pc y ci 1 n) (h0 : c0 < 23 ∧ kd c0 = ci) (hF : Fn G y (oR G c0 :: [a1]) S (PI f)) (hst : (st.map fun v => v.category).sum ≤ 8) (k : ∀ z S', f z S' → Go G q n lv (vI z :: st) S' Post) : Go G q pc lv (a1 :: oR G c0 :: st) S Post := Go_callV (As := [a1]) d h0 rfl hst hF (fun r S' h => by obtain ⟨z, rfl, h⟩ := h; exact k z S' h)
theorem Go_S1i {y : MKT} {a1 : Value} {f : Int → St → Prop} (d : DCS q pc y 1 n) (hF : Fn G y [a1] S (PI f)) (hst : (st.map fun v => v.category).sum ≤ 8) (k : ∀ z S', f z S' → Go G q n lv (vI z :: st) S' Post) : Go G q pc lv (a1 :: st) S Post := Go_callS (As := [a1]) d rfl hst hF (fun r S' h => by obtain ⟨z, rfl, h⟩ := h; exact k z S' h)
theorem Go_V1l {y : MKT} {c0 ci : Nat} {a1 : Value} {f : Int → St → Prop} (d : DCV q pc y ci 1 n) (h0 : c0 < 23 ∧ kd c0 = ci) (hF : Fn G y (oR G c0 :: [a1]) S (PL f)) (hst : (st.map fun v => v.category).sum ≤ 8) (k : ∀ z S', f z S' → Go G q n lv (vL z :: st) S' Post) : Go G q pc lv (a1 :: oR G c0 :: st) S Post := Go_callV (As := [a1]) d h0 rfl hst hF (fun r S' h => by obtain ⟨z, rfl, h⟩ := h; exact k z S' h)
theorem Go_S1l {y : MKT} {a1 : Value} {f : Int → St → Prop} (d : DCS q pc y 1 n) (hF : Fn G y [a1] S (PL f)) (hst : (st.map fun v => v.category).sum ≤ 8) (k : ∀ z S', f z S' → Go G q n lv (vL z :: st) S' Post) : Go G q pc lv (a1 :: st) S Post := Go_callS (As := [a1]) d rfl hst hF (fun r S' h => by obtain ⟨z, rfl, h⟩ := h; exact k z S' h)
theorem Go_V1n {y : MKT} {c0 ci : Nat} {a1 : Value} {f : St → Prop} (d : DCV q pc y ci 1 n) (h0 : c0 < 23 ∧ kd c0 = ci) (hF : Fn G y (oR G c0 :: [a1]) S (PN f)) (hst : (st.map fun v => v.category).sum ≤ 8) (k : ∀ S', f S' → Go G q n lv st S' Post) : Go G q pc lv (a1 :: oR G c0 :: st) S Post := Go_callV (As := [a1]) d h0 rfl hst hF (fun r S' h => by obtain ⟨rfl, h⟩ := h; exact k S' h)
theorem Go_S1n {y : MKT} {a1 : Value} {f : St → Prop} (d : DCS q pc y 1 n) (hF : Fn G y [a1] S (PN f)) (hst : (st.map fun v => v.category).sum ≤ 8) (k : ∀ S', f S' → Go G q n lv st S' Post) : Go G q pc lv (a1 :: st) S Post := Go_callS (As := [a1]) d rfl hst hF (fun r S' h => by obtain ⟨rfl, h⟩ := h; exact k S' h)
theorem Go_V2p {y : MKT} {c0 ci : Nat} {a1 a2 : Value} {v : Value} (d : DCV q pc y ci 2 n) (h0 : c0 < 23 ∧ kd c0 = ci) (hF : Fn G y (oR G c0 :: [a1, a2]) S (PV v S)) (hst : (st.map fun v => v.category).sum ≤ 8) (k : Go G q n lv (v :: st) S Post) : Go G q pc lv (a2 :: a1 :: oR G c0 :: st) S Post := Go_callV (As := [a1, a2]) d h0 rfl hst hF (fun r S' h => by obtain ⟨rfl, rfl⟩ := h; exact k)
theorem Go_S2p {y : MKT} {a1 a2 : Value} {v : Value} (d : DCS q pc y 2 n) (hF : Fn G y [a1, a2] S (PV v S)) (hst : (st.map fun v => v.category).sum ≤ 8) (k : Go G q n lv (v :: st) S Post) : Go G q pc lv (a2 :: a1 :: st) S Post := Go_callS (As := [a1, a2]) d rfl hst hF (fun r S' h => by obtain ⟨rfl, rfl⟩ := h; exact k)
theorem Go_V2i {y : MKT} {c0 ci : Nat} {a1 a2 : Value} {f : Int → St → Prop} (d : DCV q pc y ci 2 n) (h0 : c0 < 23 ∧ kd c0 = ci) (hF : Fn G y (oR G c0 :: [a1, a2]) S (PI f)) (hst : (st.map fun v => v.category).sum ≤ 8) (k : ∀ z S', f z S' → Go G q n lv (vI z :: st) S' Post) : Go G q pc lv (a2 :: a1 :: oR G c0 :: st) S Post := Go_callV (As := [a1, a2]) d h0 rfl hst hF (fun r S' h => by obtain ⟨z, rfl, h⟩ := h; exact k z S' h)
theorem Go_S2i {y : MKT} {a1 a2 : Value} {f : Int → St → Prop} (d : DCS q pc y 2 n) (hF : Fn G y [a1, a2] S (PI f)) (hst : (st.map fun v => v.category).sum ≤ 8) (k : ∀ z S', f z S' → Go G q n lv (vI z :: st) S' Post) : Go G q pc lv (a2 :: a1 :: st) S Post := Go_callS (As := [a1, a2]) d rfl hst hF (fun r S' h => by obtain ⟨z, rfl, h⟩ := h; exact k z S' h)
theorem Go_V2l {y : MKT} {c0 ci : Nat} {a1 a2 : Value} {f : Int → St → Prop} (d : DCV q pc y ci 2 n) (h0 : c0 < 23 ∧ kd c0 = ci) (hF : Fn G y (oR G c0 :: [a1, a2]) S (PL f)) (hst : (st.map fun v => v.category).sum ≤ 8) (k : ∀ z S', f z S' → Go G q n lv (vL z :: st) S' Post) : Go G q pc lv (a2 :: a1 :: oR G c0 :: st) S Post := Go_callV (As := [a1, a2]) d h0 rfl hst hF (fun r S' h => by obtain ⟨z, rfl, h⟩ := h; exact k z S' h)
theorem Go_S2l {y : MKT} {a1 a2 : Value} {f : Int → St → Prop} (d : DCS q pc y 2 n) (hF : Fn G y [a1, a2] S (PL f)) (hst : (st.map fun v => v.category).sum ≤ 8) (k : ∀ z S', f z S' → Go G q n lv (vL z :: st) S' Post) : Go G q pc lv (a2 :: a1 :: st) S Post := Go_callS (As := [a1, a2]) d rfl hst hF (fun r S' h => by obtain ⟨z, rfl, h⟩ := h; exact k z S' h)
theorem Go_V2n {y : MKT} {c0 ci : Nat} {a1 a2 : Value} {f : St → Prop} (d : DCV q pc y ci 2 n) (h0 : c0 < 23 ∧ kd c0 = ci) (hF : Fn G y (oR G c0 :: [a1, a2]) S (PN f)) (hst : (st.map fun v => v.category).sum ≤ 8) (k : ∀ S', f S' → Go G q n lv st S' Post) : Go G q pc lv (a2 :: a1 :: oR G c0 :: st) S Post := Go_callV (As := [a1, a2]) d h0 rfl hst hF (fun r S' h => by obtain ⟨rfl, h⟩ := h; exact k S' h)
theorem Go_S2n {y : MKT} {a1 a2 : Value} {f : St → Prop} (d : DCS q pc y 2 n) (hF : Fn G y [a1, a2] S (PN f)) (hst : (st.map fun v => v.category).sum ≤ 8) (k : ∀ S', f S' → Go G q n lv st S' Post) : Go G q pc lv (a2 :: a1 :: st) S Post := Go_callS (As := [a1, a2]) d rfl hst hF (fun r S' h => by obtain ⟨rfl, h⟩ := h; exact k S' h)
theorem Go_V3p {y : MKT} {c0 ci : Nat} {a1 a2 a3 : Value} {v : Value} (d : DCV q pc y ci 3 n) (h0 : c0 < 23 ∧ kd c0 = ci) (hF : Fn G y (oR G c0 :: [a1, a2, a3]) S (PV v S)) (hst : (st.map fun v => v.category).sum ≤ 8) (k : Go G q n lv (v :: st) S Post) : Go G q pc lv (a3 :: a2 :: a1 :: oR G c0 :: st) S Post := Go_callV (As := [a1, a2, a3]) d h0 rfl hst hF (fun r S' h => by obtain ⟨rfl, rfl⟩ := h; exact k)
theorem Go_S3p {y : MKT} {a1 a2 a3 : Value} {v : Value} (d : DCS q pc y 3 n) (hF : Fn G y [a1, a2, a3] S (PV v S)) (hst : (st.map fun v => v.category).sum ≤ 8) (k : Go G q n lv (v :: st) S Post) : Go G q pc lv (a3 :: a2 :: a1 :: st) S Post := Go_callS (As := [a1, a2, a3]) d rfl hst hF (fun r S' h => by obtain ⟨rfl, rfl⟩ := h; exact k)
theorem Go_V3i {y : MKT} {c0 ci : Nat} {a1 a2 a3 : Value} {f : Int → St → Prop} (d : DCV q pc y ci 3 n) (h0 : c0 < 23 ∧ kd c0 = ci) (hF : Fn G y (oR G c0 :: [a1, a2, a3]) S (PI f)) (hst : (st.map fun v => v.category).sum ≤ 8) (k : ∀ z S', f z S' → Go G q n lv (vI z :: st) S' Post) : Go G q pc lv (a3 :: a2 :: a1 :: oR G c0 :: st) S Post := Go_callV (As := [a1, a2, a3]) d h0 rfl hst hF (fun r S' h => by obtain ⟨z, rfl, h⟩ := h; exact k z S' h)
theorem Go_S3i {y : MKT} {a1 a2 a3 : Value} {f : Int → St → Prop} (d : DCS q pc y 3 n) (hF : Fn G y [a1, a2, a3] S (PI f)) (hst : (st.map fun v => v.category).sum ≤ 8) (k : ∀ z S', f z S' → Go G q n lv (vI z :: st) S' Post) : Go G q pc lv (a3 :: a2 :: a1 :: st) S Post := Go_callS (As := [a1, a2, a3]) d rfl hst hF (fun r S' h => by obtain ⟨z, rfl, h⟩ := h; exact k z S' h)
theorem Go_V3l {y : MKT} {c0 ci : Nat} {a1 a2 a3 : Value} {f : Int → St → Prop} (d : DCV q pc y ci 3 n) (h0 : c0 < 23 ∧ kd c0 = ci) (hF : Fn G y (oR G c0 :: [a1, a2, a3]) S (PL f)) (hst : (st.map fun v => v.category).sum ≤ 8) (k : ∀ z S', f z S' → Go G q n lv (vL z :: st) S' Post) : Go G q pc lv (a3 :: a2 :: a1 :: oR G c0 :: st) S Post := Go_callV (As := [a1, a2, a3]) d h0 rfl hst hF (fun r S' h => by obtain ⟨z, rfl, h⟩ := h; exact k z S' h)
theorem Go_S3l {y : MKT} {a1 a2 a3 : Value} {f : Int → St → Prop} (d : DCS q pc y 3 n) (hF : Fn G y [a1, a2, a3] S (PL f)) (hst : (st.map fun v => v.category).sum ≤ 8) (k : ∀ z S', f z S' → Go G q n lv (vL z :: st) S' Post) : Go G q pc lv (a3 :: a2 :: a1 :: st) S Post := Go_callS (As := [a1, a2, a3]) d rfl hst hF (fun r S' h => by obtain ⟨z, rfl, h⟩ := h; exact k z S' h)
theorem Go_V3n {y : MKT} {c0 ci : Nat} {a1 a2 a3 : Value} {f : St → Prop} (d : DCV q pc y ci 3 n) (h0 : c0 < 23 ∧ kd c0 = ci) (hF : Fn G y (oR G c0 :: [a1, a2, a3]) S (PN f)) (hst : (st.map fun v => v.category).sum ≤ 8) (k : ∀ S', f S' → Go G q n lv st S' Post) : Go G q pc lv (a3 :: a2 :: a1 :: oR G c0 :: st) S Post := Go_callV (As := [a1, a2, a3]) d h0 rfl hst hF (fun r S' h => by obtain ⟨rfl, h⟩ := h; exact k S' h)
theorem Go_S3n {y : MKT} {a1 a2 a3 : Value} {f : St → Prop} (d : DCS q pc y 3 n) (hF : Fn G y [a1, a2, a3] S (PN f)) (hst : (st.map fun v => v.category).sum ≤ 8) (k : ∀ S', f S' → Go G q n lv st S' Post) : Go G q pc lv (a3 :: a2 :: a1 :: st) S Post := Go_callS (As := [a1, a2, a3]) d rfl hst hF (fun r S' h => by obtain ⟨rfl, h⟩ := h; exact k S' h)
theorem Go_V4p {y : MKT} {c0 ci : Nat} {a1 a2 a3 a4 : Value} {v : Value} (d : DCV q pc y ci 4 n) (h0 : c0 < 23 ∧ kd c0 = ci) (hF : Fn G y (oR G c0 :: [a1, a2, a3, a4]) S (PV v S)) (hst : (st.map fun v => v.category).sum ≤ 8) (k : Go G q n lv (v :: st) S Post) : Go G q pc lv (a4 :: a3 :: a2 :: a1 :: oR G c0 :: st) S Post := Go_callV (As := [a1, a2, a3, a4]) d h0 rfl hst hF (fun r S' h => by obtain ⟨rfl, rfl⟩ := h; exact k)
theorem Go_S4p {y : MKT} {a1 a2 a3 a4 : Value} {v : Value} (d : DCS q pc y 4 n) (hF : Fn G y [a1, a2, a3, a4] S (PV v S)) (hst : (st.map fun v => v.category).sum ≤ 8) (k : Go G q n lv (v :: st) S Post) : Go G q pc lv (a4 :: a3 :: a2 :: a1 :: st) S Post := Go_callS (As := [a1, a2, a3, a4]) d rfl hst hF (fun r S' h => by obtain ⟨rfl, rfl⟩ := h; exact k)
theorem Go_V4i {y : MKT} {c0 ci : Nat} {a1 a2 a3 a4 : Value} {f : Int → St → Prop} (d : DCV q pc y ci 4 n) (h0 : c0 < 23 ∧ kd c0 = ci) (hF : Fn G y (oR G c0 :: [a1, a2, a3, a4]) S (PI f)) (hst : (st.map fun v => v.category).sum ≤ 8) (k : ∀ z S', f z S' → Go G q n lv (vI z :: st) S' Post) : Go G q pc lv (a4 :: a3 :: a2 :: a1 :: oR G c0 :: st) S Post := Go_callV (As := [a1, a2, a3, a4]) d h0 rfl hst hF (fun r S' h => by obtain ⟨z, rfl, h⟩ := h; exact k z S' h)
theorem Go_S4i {y : MKT} {a1 a2 a3 a4 : Value} {f : Int → St → Prop} (d : DCS q pc y 4 n) (hF : Fn G y [a1, a2, a3, a4] S (PI f)) (hst : (st.map fun v => v.category).sum ≤ 8) (k : ∀ z S', f z S' → Go G q n lv (vI z :: st) S' Post) : Go G q pc lv (a4 :: a3 :: a2 :: a1 :: st) S Post := Go_callS (As := [a1, a2, a3, a4]) d rfl hst hF (fun r S' h => by obtain ⟨z, rfl, h⟩ := h; exact k z S' h)
theorem Go_V4l {y : MKT} {c0 ci : Nat} {a1 a2 a3 a4 : Value} {f : Int → St → Prop} (d : DCV q pc y ci 4 n) (h0 : c0 < 23 ∧ kd c0 = ci) (hF : Fn G y (oR G c0 :: [a1, a2, a3, a4]) S (PL f)) (hst : (st.map fun v => v.category).sum ≤ 8) (k : ∀ z S', f z S' → Go G q n lv (vL z :: st) S' Post) : Go G q pc lv (a4 :: a3 :: a2 :: a1 :: oR G c0 :: st) S Post := Go_callV (As := [a1, a2, a3, a4]) d h0 rfl hst hF (fun r S' h => by obtain ⟨z, rfl, h⟩ := h; exact k z S' h)
theorem Go_S4l {y : MKT} {a1 a2 a3 a4 : Value} {f : Int → St → Prop} (d : DCS q pc y 4 n) (hF : Fn G y [a1, a2, a3, a4] S (PL f)) (hst : (st.map fun v => v.category).sum ≤ 8) (k : ∀ z S', f z S' → Go G q n lv (vL z :: st) S' Post) : Go G q pc lv (a4 :: a3 :: a2 :: a1 :: st) S Post := Go_callS (As := [a1, a2, a3, a4]) d rfl hst hF (fun r S' h => by obtain ⟨z, rfl, h⟩ := h; exact k z S' h)
theorem Go_V4n {y : MKT} {c0 ci : Nat} {a1 a2 a3 a4 : Value} {f : St → Prop} (d : DCV q pc y ci 4 n) (h0 : c0 < 23 ∧ kd c0 = ci) (hF : Fn G y (oR G c0 :: [a1, a2, a3, a4]) S (PN f)) (hst : (st.map fun v => v.category).sum ≤ 8) (k : ∀ S', f S' → Go G q n lv st S' Post) : Go G q pc lv (a4 :: a3 :: a2 :: a1 :: oR G c0 :: st) S Post := Go_callV (As := [a1, a2, a3, a4]) d h0 rfl hst hF (fun r S' h => by obtain ⟨rfl, h⟩ := h; exact k S' h)
theorem Go_S4n {y : MKT} {a1 a2 a3 a4 : Value} {f : St → Prop} (d : DCS q pc y 4 n) (hF : Fn G y [a1, a2, a3, a4] S (PN f)) (hst : (st.map fun v => v.category).sum ≤ 8) (k : ∀ S', f S' → Go G q n lv st S' Post) : Go G q pc lv (a4 :: a3 :: a2 :: a1 :: st) S Post := Go_callS (As := [a1, a2, a3, a4]) d rfl hst hF (fun r S' h => by obtain ⟨rfl, h⟩ := h; exact k S' h)
theorem Go_V5p {y : MKT} {c0 ci : Nat} {a1 a2 a3 a4 a5 : Value} {v : Value} (d : DCV q pc y ci 5 n) (h0 : c0 < 23 ∧ kd c0 = ci) (hF : Fn G y (oR G c0 :: [a1, a2, a3, a4, a5]) S (PV v S)) (hst : (st.map fun v => v.category).sum ≤ 8) (k : Go G q n lv (v :: st) S Post) : Go G q pc lv (a5 :: a4 :: a3 :: a2 :: a1 :: oR G c0 :: st) S Post := Go_callV (As := [a1, a2, a3, a4, a5]) d h0 rfl hst hF (fun r S' h => by obtain ⟨rfl, rfl⟩ := h; exact k)
theorem Go_S5p {y : MKT} {a1 a2 a3 a4 a5 : Value} {v : Value} (d : DCS q pc y 5 n) (hF : Fn G y [a1, a2, a3, a4, a5] S (PV v S)) (hst : (st.map fun v => v.category).sum ≤ 8) (k : Go G q n lv (v :: st) S Post) : Go G q pc lv (a5 :: a4 :: a3 :: a2 :: a1 :: st) S Post := Go_callS (As := [a1, a2, a3, a4, a5]) d rfl hst hF (fun r S' h => by obtain ⟨rfl, rfl⟩ := h; exact k)
theorem Go_V5i {y : MKT} {c0 ci : Nat} {a1 a2 a3 a4 a5 : Value} {f : Int → St → Prop} (d : DCV q pc y ci 5 n) (h0 : c0 < 23 ∧ kd c0 = ci) (hF : Fn G y (oR G c0 :: [a1, a2, a3, a4, a5]) S (PI f)) (hst : (st.map fun v => v.category).sum ≤ 8) (k : ∀ z S', f z S' → Go G q n lv (vI z :: st) S' Post) : Go G q pc lv (a5 :: a4 :: a3 :: a2 :: a1 :: oR G c0 :: st) S Post := Go_callV (As := [a1, a2, a3, a4, a5]) d h0 rfl hst hF (fun r S' h => by obtain ⟨z, rfl, h⟩ := h; exact k z S' h)
theorem Go_S5i {y : MKT} {a1 a2 a3 a4 a5 : Value} {f : Int → St → Prop} (d : DCS q pc y 5 n) (hF : Fn G y [a1, a2, a3, a4, a5] S (PI f)) (hst : (st.map fun v => v.category).sum ≤ 8) (k : ∀ z S', f z S' → Go G q n lv (vI z :: st) S' Post) : Go G q pc lv (a5 :: a4 :: a3 :: a2 :: a1 :: st) S Post := Go_callS (As := [a1, a2, a3, a4, a5]) d rfl hst hF (fun r S' h => by obtain ⟨z, rfl, h⟩ := h; exact k z S' h)
theorem Go_V5l {y : MKT} {c0 ci : Nat} {a1 a2 a3 a4 a5 : Value} {f : Int → St → Prop} (d : DCV q pc y ci 5 n) (h0 : c0 < 23 ∧ kd c0 = ci) (hF : Fn G y (oR G c0 :: [a1, a2, a3, a4, a5]) S (PL f)) (hst : (st.map fun v => v.category).sum ≤ 8) (k : ∀ z S', f z S' → Go G q n lv (vL z :: st) S' Post) : Go G q pc lv (a5 :: a4 :: a3 :: a2 :: a1 :: oR G c0 :: st) S Post := Go_callV (As := [a1, a2, a3, a4, a5]) d h0 rfl hst hF (fun r S' h => by obtain ⟨z, rfl, h⟩ := h; exact k z S' h)
theorem Go_S5l {y : MKT} {a1 a2 a3 a4 a5 : Value} {f : Int → St → Prop} (d : DCS q pc y 5 n) (hF : Fn G y [a1, a2, a3, a4, a5] S (PL f)) (hst : (st.map fun v => v.category).sum ≤ 8) (k : ∀ z S', f z S' → Go G q n lv (vL z :: st) S' Post) : Go G q pc lv (a5 :: a4 :: a3 :: a2 :: a1 :: st) S Post := Go_callS (As := [a1, a2, a3, a4, a5]) d rfl hst hF (fun r S' h => by obtain ⟨z, rfl, h⟩ := h; exact k z S' h)
theorem Go_V5n {y : MKT} {c0 ci : Nat} {a1 a2 a3 a4 a5 : Value} {f : St → Prop} (d : DCV q pc y ci 5 n) (h0 : c0 < 23 ∧ kd c0 = ci) (hF : Fn G y (oR G c0 :: [a1, a2, a3, a4, a5]) S (PN f)) (hst : (st.map fun v => v.category).sum ≤ 8) (k : ∀ S', f S' → Go G q n lv st S' Post) : Go G q pc lv (a5 :: a4 :: a3 :: a2 :: a1 :: oR G c0 :: st) S Post := Go_callV (As := [a1, a2, a3, a4, a5]) d h0 rfl hst hF (fun r S' h => by obtain ⟨rfl, h⟩ := h; exact k S' h)
theorem Go_S5n {y : MKT} {a1 a2 a3 a4 a5 : Value} {f : St → Prop} (d : DCS q pc y 5 n) (hF : Fn G y [a1, a2, a3, a4, a5] S (PN f)) (hst : (st.map fun v => v.category).sum ≤ 8) (k : ∀ S', f S' → Go G q n lv st S' Post) : Go G q pc lv (a5 :: a4 :: a3 :: a2 :: a1 :: st) S Post := Go_callS (As := [a1, a2, a3, a4, a5]) d rfl hst hF (fun r S' h => by obtain ⟨rfl, h⟩ := h; exact k S' h)
theorem Go_S6p {y : MKT} {a1 a2 a3 a4 a5 a6 : Value} {v : Value} (d : DCS q pc y 6 n) (hF : Fn G y [a1, a2, a3, a4, a5, a6] S (PV v S)) (hst : (st.map fun v => v.category).sum ≤ 8) (k : Go G q n lv (v :: st) S Post) : Go G q pc lv (a6 :: a5 :: a4 :: a3 :: a2 :: a1 :: st) S Post := Go_callS (As := [a1, a2, a3, a4, a5, a6]) d rfl hst hF (fun r S' h => by obtain ⟨rfl, rfl⟩ := h; exact k)
theorem Go_S6i {y : MKT} {a1 a2 a3 a4 a5 a6 : Value} {f : Int → St → Prop} (d : DCS q pc y 6 n) (hF : Fn G y [a1, a2, a3, a4, a5, a6] S (PI f)) (hst : (st.map fun v => v.category).sum ≤ 8) (k : ∀ z S', f z S' → Go G q n lv (vI z :: st) S' Post) : Go G q pc lv (a6 :: a5 :: a4 :: a3 :: a2 :: a1 :: st) S Post := Go_callS (As := [a1, a2, a3, a4, a5, a6]) d rfl hst hF (fun r S' h => by obtain ⟨z, rfl, h⟩ := h; exact k z S' h)
theorem Go_S6l {y : MKT} {a1 a2 a3 a4 a5 a6 : Value} {f : Int → St → Prop} (d : DCS q pc y 6 n) (hF : Fn G y [a1, a2, a3, a4, a5, a6] S (PL f)) (hst : (st.map fun v => v.category).sum ≤ 8) (k : ∀ z S', f z S' → Go G q n lv (vL z :: st) S' Post) : Go G q pc lv (a6 :: a5 :: a4 :: a3 :: a2 :: a1 :: st) S Post := Go_callS (As := [a1, a2, a3, a4, a5, a6]) d rfl hst hF (fun r S' h => by obtain ⟨z, rfl, h⟩ := h; exact k z S' h)
theorem Go_S6n {y : MKT} {a1 a2 a3 a4 a5 a6 : Value} {f : St → Prop} (d : DCS q pc y 6 n) (hF : Fn G y [a1, a2, a3, a4, a5, a6] S (PN f)) (hst : (st.map fun v => v.category).sum ≤ 8) (k : ∀ S', f S' → Go G q n lv st S' Post) : Go G q pc lv (a6 :: a5 :: a4 :: a3 :: a2 :: a1 :: st) S Post := Go_callS (As := [a1, a2, a3, a4, a5, a6]) d rfl hst hF (fun r S' h => by obtain ⟨rfl, h⟩ := h; exact k S' h)
/-! natives and the static rows -/
def DAC (q : MKT) (pc n : Nat) : Prop := ∃ idx : Nat, decode q.2.2.1 pc = .ok (.invokestatic idx, 3) ∧ pc + 3 = n ∧ Cond.methodLink q.1 idx arraycopyName ∈ tb ∧ 1 ≤ q.2.2.2.2.2
theorem w_acN : Cond.native arraycopyName ∈ tb ∧ Cond.static arraycopyName ∈ tb ∧ Cond.initialized "java/lang/System" ∈ tb := ⟨tb_of (by decide +kernel) (by decide +kernel), tb_of (by decide +kernel) (by decide +kernel), tb_of (by decide +kernel) (by decide +kernel)⟩
def cpy3 (S : St) (c j c1 j1 sp dp k : Nat) : St := fun x y i => if x = c1 ∧ y = j1 ∧ dp ≤ i ∧ i < dp + k then S c j (sp + (i - dp)) else S x y i
theorem mk_cpy {c j c1 j1 sp dp k : Nat} (hc : c1 < 23) (ha : ak c1 j1 ≠ 0) {p : Nat × Nat} (hp : p ∈ vs) (hne : p ≠ (c1, j1 + 1)) : mk G (cpy3 S c j c1 j1 sp dp k) p.1 p.2 = mk G S p.1 p.2 := by
  obtain ⟨pc, pt⟩ := p
  have hok := vs_ok _ hp
  dsimp only at hok ⊢
  cases pt with
  | zero =>
    show (Sum.inr (kd pc, fl G (cpy3 S c j c1 j1 sp dp k) pc) : va_E) = Sum.inr (kd pc, fl G S pc)
    have e : fl G (cpy3 S c j c1 j1 sp dp k) pc = fl G S pc := by
      by_cases hcc : pc = c1
      · subst hcc
        unfold ak at ha
        rcases kd_cases pc hc with h | h | h | h | h | h <;> rw [h] at ha <;> simp only [fl, h, fl_Book, fl_Past, fl_Sheet, fl_Tape, fl_Mix, fl_Model] <;>
          (congr <;> exact if_neg (fun e => ha (by rw [← e.2.1]; rfl)))
      · unfold fl
        have hz : ∀ j2 i1, cpy3 S c j c1 j1 sp dp k pc j2 i1 = S pc j2 i1 := fun j2 i1 => if_neg (fun e => hcc e.1)
        split <;> simp only [fl_Book, fl_Past, fl_Sheet, fl_Tape, fl_Mix, fl_Model, hz]
    rw [e]
  | succ t =>
    show (Sum.inl (G.2.2.2.2.1 pc t, ln pc t, mkc G (cpy3 S c j c1 j1 sp dp k) pc t) : va_E) = Sum.inl (G.2.2.2.2.1 pc t, ln pc t, mkc G S pc t)
    have e : mkc G (cpy3 S c j c1 j1 sp dp k) pc t = mkc G S pc t := by
      have hz : ∀ i, cpy3 S c j c1 j1 sp dp k pc t i = S pc t i := fun i => if_neg (fun q => hne (by rw [q.1, q.2.1]))
      unfold mkc
      simp only [hz]
    rw [e]
theorem AI.cpy {c j c1 j1 N1 sp dp k z : Nat} (h1 : AI c1 j1 N1) (hk : vs[z]? = some (c1, j1 + 1)) : (Wd G S).set z (G.2.1 c1 (j1 + 1), .inl (G.2.2.2.2.1 c1 j1, N1, .inl (va_cpy (fun k => iI (S c j k)) (fun k => iI (S c1 j1 k)) sp dp k))) = Wd G (cpy3 S c j c1 j1 sp dp k) := by
  have e := Wd_set (G := G) (S := S) (S' := cpy3 S c j c1 j1 sp dp k) hk (fun p hp hne => mk_cpy h1.1 (by rw [h1.2.2.1]; decide) hp hne)
  rw [show ((c1, j1 + 1) : Nat × Nat).1 = c1 from rfl, show ((c1, j1 + 1) : Nat × Nat).2 = j1 + 1 from rfl, mk_AI h1] at e
  rw [← e]
  congr 6
  funext i
  unfold va_cpy cpy3
  by_cases hz : dp ≤ i ∧ i < dp + k
  · rw [if_pos hz, if_pos ⟨rfl, rfl, hz⟩]
  · rw [if_neg hz, if_neg (fun q => hz q.2.2)]
theorem AL.cpy {c j c1 j1 N1 sp dp k z : Nat} (h1 : AL c1 j1 N1) (hk : vs[z]? = some (c1, j1 + 1)) : (Wd G S).set z (G.2.1 c1 (j1 + 1), .inl (G.2.2.2.2.1 c1 j1, N1, .inr (.inl (va_cpy (fun k => lI (S c j k)) (fun k => lI (S c1 j1 k)) sp dp k)))) = Wd G (cpy3 S c j c1 j1 sp dp k) := by
  have e := Wd_set (G := G) (S := S) (S' := cpy3 S c j c1 j1 sp dp k) hk (fun p hp hne => mk_cpy h1.1 (by rw [h1.2.2.1]; decide) hp hne)
  rw [show ((c1, j1 + 1) : Nat × Nat).1 = c1 from rfl, show ((c1, j1 + 1) : Nat × Nat).2 = j1 + 1 from rfl, mk_AL h1] at e
  rw [← e]
  congr 7
  funext i
  unfold va_cpy cpy3
  by_cases hz : dp ≤ i ∧ i < dp + k
  · rw [if_pos hz, if_pos ⟨rfl, rfl, hz⟩]
  · rw [if_neg hz, if_neg (fun q => hz q.2.2)]

set_option maxHeartbeats 2000000 in
theorem Go_copyI {c0 j N c1 j1 N1 : Nat} {sp dp k : Int} (d : DAC q pc n) (h0 : AI c0 j N) (h1 : AI c1 j1 N1) (hsp : 0 ≤ sp) (hdp : 0 ≤ dp) (hk : 0 ≤ k) (hs1 : sp + k ≤ (N : Int)) (hd1 : dp + k ≤ (N1 : Int)) (hst : (st.map fun v => v.category).sum ≤ 8) (kk : Go G q n lv st (cpy3 S c0 j c1 j1 sp.toNat dp.toNat k.toNat) Post) : Go G q pc lv (vI k :: vI dp :: aR G c1 j1 :: vI sp :: aR G c0 j :: st) S Post := by
  intro p e R s m args below meth c cells slots Q H locs ls X hc hs K hl hP hS
  obtain ⟨idx, hd, rfl, w1, w2⟩ := d
  obtain ⟨hx, hb, hml, hown, hts, hK, hR, -⟩ := id X
  obtain ⟨z0, -, hz0⟩ := h0.at (G := G) (S := S)
  obtain ⟨z1, hz1', hz1⟩ := h1.at (G := G) (S := S)
  obtain ⟨y0, hy0⟩ := h0.ty (G := G)
  obtain ⟨y1, hy1⟩ := h1.ty (G := G)
  have hN := h0.2.2.2.2
  have hN1 := h1.2.2.2.2
  have ng : ∀ x : Int, 0 ≤ x → x < 2147483648 → ¬ iI x < 0 := fun x h h2 => fun e => by have := (iI_lt (a := x) (b := 0) (by omega) (by omega)).mp e; omega
  refine va_copyi hx hb (hml.trans hl.1.symm) hown (hts _ w1) (hts _ w_acN.1) (hts _ w_acN.2.1) (hts _ w_acN.2.2) hK.1 hP (Wd_D hK.2.1) hS z0 z1 y0 y1 hz0 hz1 hy0 hy1 rfl (ng sp hsp (by omega)) (ng dp hdp (by omega)) (ng k hk (by omega)) (by rw [iI_cl (by omega), iI_cl (by omega)]; omega) (by rw [iI_cl (by omega), iI_cl (by omega)]; omega) (fun _ _ => rfl) (Nat.le_trans w2 hR.1) ?_ hd (fun H1 locs1 hP1 _ hS1 => ?_)
  · have : nativeFrameWords "java/lang/System" "arraycopy" 5 = 7 := by decide
    omega
  · rw [iI_cl (by omega), iI_cl (by omega), iI_cl (by omega), AI.cpy h1 hz1'] at hP1
    exact kk p e R s m args below meth c cells slots Q H1 locs1 ls X hc hs K hl hP1 hS1
set_option maxHeartbeats 2000000 in
theorem Go_copyL {c0 j N c1 j1 N1 : Nat} {sp dp k : Int} (d : DAC q pc n) (h0 : AL c0 j N) (h1 : AL c1 j1 N1) (hsp : 0 ≤ sp) (hdp : 0 ≤ dp) (hk : 0 ≤ k) (hs1 : sp + k ≤ (N : Int)) (hd1 : dp + k ≤ (N1 : Int)) (hst : (st.map fun v => v.category).sum ≤ 8) (kk : Go G q n lv st (cpy3 S c0 j c1 j1 sp.toNat dp.toNat k.toNat) Post) : Go G q pc lv (vI k :: vI dp :: aR G c1 j1 :: vI sp :: aR G c0 j :: st) S Post := by
  intro p e R s m args below meth c cells slots Q H locs ls X hc hs K hl hP hS
  obtain ⟨idx, hd, rfl, w1, w2⟩ := d
  obtain ⟨hx, hb, hml, hown, hts, hK, hR, -⟩ := id X
  obtain ⟨z0, -, hz0⟩ := h0.at (G := G) (S := S)
  obtain ⟨z1, hz1', hz1⟩ := h1.at (G := G) (S := S)
  obtain ⟨y0, hy0⟩ := h0.ty (G := G)
  obtain ⟨y1, hy1⟩ := h1.ty (G := G)
  have hN := h0.2.2.2.2
  have hN1 := h1.2.2.2.2
  have ng : ∀ x : Int, 0 ≤ x → x < 2147483648 → ¬ iI x < 0 := fun x h h2 => fun e => by have := (iI_lt (a := x) (b := 0) (by omega) (by omega)).mp e; omega
  refine va_copyl hx hb (hml.trans hl.1.symm) hown (hts _ w1) (hts _ w_acN.1) (hts _ w_acN.2.1) (hts _ w_acN.2.2) hK.1 hP (Wd_D hK.2.1) hS z0 z1 y0 y1 hz0 hz1 hy0 hy1 rfl (ng sp hsp (by omega)) (ng dp hdp (by omega)) (ng k hk (by omega)) (by rw [iI_cl (by omega), iI_cl (by omega)]; omega) (by rw [iI_cl (by omega), iI_cl (by omega)]; omega) (fun _ _ => rfl) (Nat.le_trans w2 hR.1) ?_ hd (fun H1 locs1 hP1 _ hS1 => ?_)
  · have : nativeFrameWords "java/lang/System" "arraycopy" 5 = 7 := by decide
    omega
  · rw [iI_cl (by omega), iI_cl (by omega), iI_cl (by omega), AL.cpy h1 hz1'] at hP1
    exact kk p e R s m args below meth c cells slots Q H1 locs1 ls X hc hs K hl hP1 hS1
end Calls
