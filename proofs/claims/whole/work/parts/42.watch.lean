theorem metF {l : Launch} {y : MethodName} {ws ws' : List Cond} {rm : Room} {Pc : Array Value → State → Prop} {Qc : Array Value → State → Outcome → State → Prop} {mc ms : Nat} {free : Addr → Prop} {cc : ByteArray} {maxL : Nat} {ret : Option FieldType}
    (hy : plainFor y = true) (hw : ws = Cond.code y cc maxL ret :: ws')
    (body : ∀ p e s m args below meth c s₁, BodyLoose p l y (headSpec ws rm) cc maxL ret e s m args below meth c s₁ → c.maxLocals = maxL → Pc args s →
      W p l e (headSpec ws rm).room s m args below meth c s.heap [] 0 0 (MQ below Qc args s mc ms free) (entryFrame m args maxL)) : Met l y ws rm Pc Qc mc ms free := by
  refine MetFree.of_bodySF (code := cc) (maxLocals := maxL) (ret := ret) hy ?_ ?_
  · intro args s m h hn
    obtain ⟨meth, c, h1, h2, h3, h4, h5, h6, -, -⟩ := Cond.code_spec hn (atoms_spec (ws := ws) h _ (by rw [hw]; exact List.mem_cons_self))
    exact ⟨meth, c, h1, h2, h3, h4, h5, h6⟩
  · intro p e s m args below meth c s₁ B hml hP _
    have hh0 : s₁.heap = s.heap := by rw [B.state]; rfl
    obtain ⟨t, a1, o, b1, b2, b3⟩ := body p e s m args below meth c s₁ B hml hP s₁ hh0 (Stand.of_body B)
    exact ⟨t, o, a1, b1, b2, ⟨b3.1, b3.2⟩⟩
set_option maxHeartbeats 4000000 in
theorem Fn.ofF {G : GT} {q : MKT} {av : List Value} {S : St} {Post : Option Value → St → Prop} (lv : List (Option Value)) (n : Nat) (hlv : lvE av ++ List.replicate n none = lv) (hy : plainFor q.2.1 = true) (hown : q.1 = q.2.1.cls) (hlen : (lg_sl av).length ≤ q.2.2.2.1) (hnl : q.1 ≠ "MixRoundsLaw")
    (h : Go G q 0 lv [] S Post) : Fn G q av S Post := by
  refine metF (cc := q.2.2.1) (maxL := q.2.2.2.1) (ret := q.2.2.2.2.1) hy rfl ?_
  intro p e s m args below meth c s₁ B hml hv
  obtain ⟨rfl, hP, hK⟩ := hv
  have hts : ∀ w ∈ tb, w.before av.toArray s = true := fun w hw => atoms_spec (ws := wsG q) B.pre w (List.mem_cons_of_mem _ hw)
  have hr : meth.sig.returnType = q.2.2.2.2.1 := B.returns
  have hlocks := B.notSynchronized
  have hl := lv_entry av (n := q.2.2.2.1) hlen
  rw [lg_entry_eq]
  generalize (lg_sl av ++ List.replicate (q.2.2.2.1 - (lg_sl av).length) Slot.unset).toArray = ls at hl ⊢
  have hl2 : lvH ls q.2.2.2.1 lv := by
    refine ⟨hl.1, hl.2.1, fun z hz => ?_⟩
    rw [← hlv] at hz
    exact hl.2.2 z (lvE_mem av 0 n z hz)
  refine h p e (rmG q.2.2.2.2.2) s m av.toArray below meth c 0 0 _ s.heap [] ls ⟨B.exec, B.bytes, hml, by rw [hown]; exact findClass_of_methodNamed B.named, hts, hK, ⟨Nat.le_refl _, Nat.le_refl _⟩, fun hq => absurd hq hnl⟩ (Nat.le_refl 0) (Nat.le_refl 0) ?_ hl2 hP va_S.rf
  intro r S' H' locs' pc' ls' hpost hrt hP' hS'
  rcases hrt with ⟨z, rfl, hd, ht⟩ | ⟨z, rfl, hd, ht⟩ | ⟨rfl, hd, ht⟩
  · rcases ht with ht | ⟨ht, hz⟩
    · exact W.iret B.exec B.bytes (hr.trans ht) (fun t ht2 _ => ⟨⟨_, S', rfl, hpost, by rw [ht2]; exact hP'⟩, hS'.F ht2⟩) (fun x hx => hS'.2.2 x hx) hd
    · exact W.zret B.exec B.bytes (hr.trans ht) (by rcases hz with rfl | rfl <;> rfl) (fun t ht2 _ => ⟨⟨_, S', rfl, hpost, by rw [ht2]; exact hP'⟩, hS'.F ht2⟩) (fun x hx => hS'.2.2 x hx) hd
  · exact W.lret B.exec B.bytes (hr.trans ht) (fun t ht2 _ => ⟨⟨_, S', rfl, hpost, by rw [ht2]; exact hP'⟩, hS'.F ht2⟩) (fun x hx => hS'.2.2 x hx) hd
  · exact W.vret B.exec B.bytes (hr.trans ht) (fun t ht2 _ => ⟨⟨_, S', rfl, hpost, by rw [ht2]; exact hP'⟩, hS'.F ht2⟩) (fun x hx => hS'.2.2 x hx) hd

theorem prK_le {N : Row} (hW : WF N) (f k : Nat) : prK (mM N) (mJ N) f k ≤ prS (mM N) f k := by
  induction k with
  | zero => exact Int.le_refl _
  | succ k ih =>
    have hj := mJ_le hW (q := f + k)
    have hs : mM N (f + k) - mJ N (f + k) ≤ sh (mM N (f + k)) := by unfold sh; split <;> omega
    show prK (mM N) (mJ N) f k * (mM N (f + k) - mJ N (f + k)) ≤ prS (mM N) f k * sh (mM N (f + k))
    exact Int.le_trans (Int.mul_le_mul_of_nonneg_right ih (by omega)) (Int.mul_le_mul_of_nonneg_left hs (Int.le_of_lt (prS_pos _ _ _)))
theorem prS_b {N : Row} (hW : WF N) {f k : Nat} (h : ((f + k : Nat) : Int) ≤ N 6) : prS (mM N) f k ≤ 129746337890625 := by
  have h6 := hW.1.2.2.2.2.2.2.2
  exact (prS_rg (by omega) (fun q _ b => mM_15 hW (by omega))).2
theorem wtV_le {N : Row} (hW : WF N) {i r : Int} (hi : 0 ≤ lf N i 2) (hr : r ≤ N 6) : wtV N i r ≤ 129746337890625 := by
  unfold wtV
  split
  · omega
  · next hn =>
    have h1 := prK_le hW (lf N i 2).toNat (r - lf N i 2).toNat
    have h2 := prS_app (mM N) 0 (lf N i 2).toNat (r - lf N i 2).toNat
    rw [Nat.zero_add] at h2
    have h3 := prS_b hW (f := 0) (k := (lf N i 2).toNat + (r - lf N i 2).toNat) (by omega)
    have h4 := Int.mul_le_mul_of_nonneg_left h1 (Int.le_of_lt (prS_pos (mM N) 0 (lf N i 2).toNat))
    omega
section Watch
variable {G : GT} {S : St} {c : Nat} {N : Row}
theorem c_J_max (a b : Int) (ha : -2147483648 ≤ a ∧ a < 2147483648) (hb : -2147483648 ≤ b ∧ b < 2147483648) : Fn G k_J_max [vI a, vI b] S (PV (vI (if a < b then b else a)) S) := by
  refine Fn.ofF [some (vI a), some (vI b)] 0 rfl (by decide +kernel) rfl (Nat.le_of_ble_eq_true rfl) (by decide) ?_
  refine Go_iload d_J_max_0 lg0 ?_
  refine Go_iload d_J_max_1 lg1 ?_
  refine Go_icmp_lt d_J_max_2 (by omega) (by omega) (fun h2 => ?_) (fun h2 => ?_)
  · refine Go_iload d_J_max_9 lg1 ?_
    exact Go_iretV d_J_max_10 (by split <;> omega)
  · refine Go_iload d_J_max_5 lg0 ?_
    refine Go_goto d_J_max_6 ?_
    exact Go_iretV d_J_max_10 (by split <;> omega)
theorem c_W_share (q : Int) (hq : 0 ≤ q ∧ q < N 6) (hc : 1 ≤ c ∧ c ≤ 14) (hB : BR (S c) N) (hW : WF N) : Fn G k_W_share [oR G c, vI q] S (PV (vL (sh (mM N q.toNat))) S) := by
  have hN := hW.1
  obtain ⟨a1, ⟨a2, a3, a4, a5⟩, a6, a7, a8, a9⟩ := id hB
  obtain ⟨hr, i0, i1, i2, i3, i4, i5, i6⟩ := id hN
  have hro := rof_0 N q 3 (N 5).toNat
  have em : mM N q.toNat = rof N q 3 (N 5).toNat := by unfold mM; rw [show ((q.toNat : Nat) : Int) = q by omega]
  refine Fn.of [some (oR G c), some (vI q)] 0 rfl (by decide +kernel) rfl (Nat.le_of_ble_eq_true rfl) (by decide) ?_
  refine Go_const d_W_share_0 ?_
  refine Go_aload d_W_share_1 lg0 ⟨_, rfl⟩ ?_
  refine Go_iload d_W_share_2 lg1 ?_
  refine Go_const d_W_share_3 ?_
  refine Go_V2p d_W_share_4 (kB (by first | assumption | decide | omega)) (c_B_fact _ _ (by omega) (by omega) (by first | assumption | decide) hB hN) (Nat.le_of_ble_eq_true rfl) ?_
  rw [if_pos (by omega)]
  refine Go_S2p d_W_share_7 (c_J_max _ _ (by omega) (by omega)) (Nat.le_of_ble_eq_true rfl) ?_
  refine Go_i2l d_W_share_10 (by split <;> omega) ?_
  exact Go_lretV d_W_share_11 (by rw [em]; unfold sh; (repeat' split) <;> omega)
theorem c_W_kept (q : Int) (hq : 0 ≤ q ∧ q < N 6) (hc : 1 ≤ c ∧ c ≤ 14) (hB : BR (S c) N) (hW : WF N) : Fn G k_W_kept [oR G c, vI q] S (PV (vL (mM N q.toNat - mJ N q.toNat)) S) := by
  have hN := hW.1
  obtain ⟨a1, ⟨a2, a3, a4, a5⟩, a6, a7, a8, a9⟩ := id hB
  obtain ⟨hr, i0, i1, i2, i3, i4, i5, i6⟩ := id hN
  have hro := rof_0 N q 3 (N 5).toNat
  have hro4 := rof_0 N q 4 (N 5).toNat
  have em : mM N q.toNat = rof N q 3 (N 5).toNat := by unfold mM; rw [show ((q.toNat : Nat) : Int) = q by omega]
  have ej : mJ N q.toNat = rof N q 4 (N 5).toNat := by unfold mJ; rw [show ((q.toNat : Nat) : Int) = q by omega]
  refine Fn.of [some (oR G c), some (vI q)] 0 rfl (by decide +kernel) rfl (Nat.le_of_ble_eq_true rfl) (by decide) ?_
  refine Go_aload d_W_kept_0 lg0 ⟨_, rfl⟩ ?_
  refine Go_iload d_W_kept_1 lg1 ?_
  refine Go_const d_W_kept_2 ?_
  refine Go_V2p d_W_kept_3 (kB (by first | assumption | decide | omega)) (c_B_fact _ _ (by omega) (by omega) (by first | assumption | decide) hB hN) (Nat.le_of_ble_eq_true rfl) ?_
  rw [if_pos (by omega)]
  refine Go_aload d_W_kept_6 lg0 ⟨_, rfl⟩ ?_
  refine Go_iload d_W_kept_7 lg1 ?_
  refine Go_const d_W_kept_8 ?_
  refine Go_V2p d_W_kept_9 (kB (by first | assumption | decide | omega)) (c_B_fact _ _ (by omega) (by omega) (by first | assumption | decide) hB hN) (Nat.le_of_ble_eq_true rfl) ?_
  rw [if_pos (by omega)]
  refine Go_isub d_W_kept_12 ?_
  refine Go_i2l d_W_kept_13 (by omega) ?_
  exact Go_lretV d_W_kept_14 (by rw [em, ej])
theorem c_W_whole (f b : Int) (hf : 0 ≤ f ∧ f ≤ b) (hb : b ≤ N 6) (hc : 1 ≤ c ∧ c ≤ 14) (hB : BR (S c) N) (hW : WF N) : Fn G k_W_whole [oR G c, vI f, vI b] S (PV (vL (prS (mM N) f.toNat (b - f).toNat)) S) := by
  have hN := hW.1
  obtain ⟨a1, ⟨a2, a3, a4, a5⟩, a6, a7, a8, a9⟩ := id hB
  obtain ⟨hr, i0, i1, i2, i3, i4, i5, i6⟩ := id hN
  refine Fn.of [some (oR G c), some (vI f), some (vI b), none, none, none] 3 rfl (by decide +kernel) rfl (Nat.le_of_ble_eq_true rfl) (by decide) ?_

  have loop := loopF (fun q => ∀ z, z = prS (mM N) f.toNat (q - f).toNat → Go G k_W_whole 5 [some (oR G c), some (vI f), some (vI b), some (vL z), none, some (vI q)] [] S (PV (vL (prS (mM N) f.toNat (b - f).toNat)) S)) f b ?_ ?_
  refine Go_lconst d_W_whole_0 ?_
  refine Go_lstore d_W_whole_1 rfl sb3 ?_
  refine Go_iload d_W_whole_2 lg1 ?_
  refine Go_istore d_W_whole_3 rfl sa5 ?_
  exact loop f (by omega) (by omega) 1 (by rw [show (f - f).toNat = 0 by omega]; rfl)
  · intro z hz
    refine Go_iload d_W_whole_5 lg5 ?_
    refine Go_iload d_W_whole_7 lg2 ?_
    refine Go_icmp_ge d_W_whole_8 (by omega) (by omega) (fun h8 => ?_) (fun h8 => absurd h8 (by omega))
    refine Go_lload d_W_whole_26 lg3 ?_
    exact Go_lretV d_W_whole_27 hz
  · intro q h0 h1 ih z hz
    refine Go_iload d_W_whole_5 lg5 ?_
    refine Go_iload d_W_whole_7 lg2 ?_
    refine Go_icmp_ge d_W_whole_8 (by omega) (by omega) (fun h8 => absurd h8 (by omega)) (fun h8 => ?_)
    refine Go_lload d_W_whole_11 lg3 ?_
    refine Go_aload d_W_whole_12 lg0 ⟨_, rfl⟩ ?_
    refine Go_iload d_W_whole_13 lg5 ?_
    refine Go_S2p d_W_whole_15 (c_W_share _ (by omega) (by first | assumption | decide) hB hW) (Nat.le_of_ble_eq_true rfl) ?_
    refine Go_lmul d_W_whole_18 ?_
    refine Go_lstore d_W_whole_19 rfl sb3 ?_
    refine Go_iinc d_W_whole_20 lg5 rfl sa5 ?_
    refine Go_goto d_W_whole_23 ?_
    refine ih _ ?_
    rw [show (q + 1 - f).toNat = (q - f).toNat + 1 by omega, hz]
    show _ = prS (mM N) f.toNat (q - f).toNat * sh (mM N (f.toNat + (q - f).toNat))
    rw [show f.toNat + (q - f).toNat = q.toNat by omega]
theorem c_W_left (f b : Int) (hf : 0 ≤ f ∧ f ≤ b) (hb : b ≤ N 6) (hc : 1 ≤ c ∧ c ≤ 14) (hB : BR (S c) N) (hW : WF N) : Fn G k_W_left [oR G c, vI f, vI b] S (PV (vL (prK (mM N) (mJ N) f.toNat (b - f).toNat)) S) := by
  have hN := hW.1
  obtain ⟨a1, ⟨a2, a3, a4, a5⟩, a6, a7, a8, a9⟩ := id hB
  obtain ⟨hr, i0, i1, i2, i3, i4, i5, i6⟩ := id hN
  refine Fn.of [some (oR G c), some (vI f), some (vI b), none, none, none] 3 rfl (by decide +kernel) rfl (Nat.le_of_ble_eq_true rfl) (by decide) ?_

  have loop := loopF (fun q => ∀ z, z = prK (mM N) (mJ N) f.toNat (q - f).toNat → Go G k_W_left 5 [some (oR G c), some (vI f), some (vI b), some (vL z), none, some (vI q)] [] S (PV (vL (prK (mM N) (mJ N) f.toNat (b - f).toNat)) S)) f b ?_ ?_
  refine Go_lconst d_W_left_0 ?_
  refine Go_lstore d_W_left_1 rfl sb3 ?_
  refine Go_iload d_W_left_2 lg1 ?_
  refine Go_istore d_W_left_3 rfl sa5 ?_
  exact loop f (by omega) (by omega) 1 (by rw [show (f - f).toNat = 0 by omega]; rfl)
  · intro z hz
    refine Go_iload d_W_left_5 lg5 ?_
    refine Go_iload d_W_left_7 lg2 ?_
    refine Go_icmp_ge d_W_left_8 (by omega) (by omega) (fun h8 => ?_) (fun h8 => absurd h8 (by omega))
    refine Go_lload d_W_left_26 lg3 ?_
    exact Go_lretV d_W_left_27 hz
  · intro q h0 h1 ih z hz
    refine Go_iload d_W_left_5 lg5 ?_
    refine Go_iload d_W_left_7 lg2 ?_
    refine Go_icmp_ge d_W_left_8 (by omega) (by omega) (fun h8 => absurd h8 (by omega)) (fun h8 => ?_)
    refine Go_lload d_W_left_11 lg3 ?_
    refine Go_aload d_W_left_12 lg0 ⟨_, rfl⟩ ?_
    refine Go_iload d_W_left_13 lg5 ?_
    refine Go_S2p d_W_left_15 (c_W_kept _ (by omega) (by first | assumption | decide) hB hW) (Nat.le_of_ble_eq_true rfl) ?_
    refine Go_lmul d_W_left_18 ?_
    refine Go_lstore d_W_left_19 rfl sb3 ?_
    refine Go_iinc d_W_left_20 lg5 rfl sa5 ?_
    refine Go_goto d_W_left_23 ?_
    refine ih _ ?_
    rw [show (q + 1 - f).toNat = (q - f).toNat + 1 by omega, hz]
    show _ = prK (mM N) (mJ N) f.toNat (q - f).toNat * (mM N (f.toNat + (q - f).toNat) - mJ N (f.toNat + (q - f).toNat))
    rw [show f.toNat + (q - f).toNat = q.toNat by omega]
theorem c_W_weight (i r : Int) (hi : 0 ≤ i ∧ i < N 5) (hr0 : 0 ≤ r ∧ r < N 6) (hc : 1 ≤ c ∧ c ≤ 14) (hB : BR (S c) N) (hW : WF N) : Fn G k_W_weight [oR G c, vI i, vI r] S (PV (vL (wtV N i r)) S) := by
  have hN := hW.1
  obtain ⟨a1, ⟨a2, a3, a4, a5⟩, a6, a7, a8, a9⟩ := id hB
  obtain ⟨hr, i0, i1, i2, i3, i4, i5, i6⟩ := id hN
  obtain ⟨l0, l1, l2, l3, l4⟩ := hW.2.2.1 i hi.1 hi.2
  refine Fn.of [some (oR G c), some (vI i), some (vI r), none] 1 rfl (by decide +kernel) rfl (Nat.le_of_ble_eq_true rfl) (by decide) ?_
  refine Go_aload d_W_weight_0 lg0 ⟨_, rfl⟩ ?_
  refine Go_iload d_W_weight_1 lg1 ?_
  refine Go_V1p d_W_weight_2 (kB (by first | assumption | decide | omega)) (c_B_firstOf _ (by omega) (by first | assumption | decide) hB hN) (Nat.le_of_ble_eq_true rfl) ?_
  rw [if_pos hi]
  refine Go_istore d_W_weight_5 rfl sa3 ?_
  refine Go_aload d_W_weight_6 lg0 ⟨_, rfl⟩ ?_
  refine Go_iload d_W_weight_7 lg1 ?_
  refine Go_V1p d_W_weight_8 (kB (by first | assumption | decide | omega)) (c_B_senderOf _ (by omega) (by first | assumption | decide) hB hN) (Nat.le_of_ble_eq_true rfl) ?_
  rw [if_pos hi]
  refine Go_const d_W_weight_11 ?_
  refine Go_icmp_eq d_W_weight_13 (by omega) (by omega) (fun h13 => ?_) (fun h13 => ?_)
  · refine Go_lconst d_W_weight_21 ?_
    first
      | exact Go_lretV d_W_weight_22 (by unfold wtV; rw [if_pos (by omega)])
      | exact Go_lretV d_W_weight_22 (by unfold wtV; rw [if_neg (by omega), show (lf N i 2 - 0).toNat = (lf N i 2).toNat by omega]; rfl)
  · refine Go_iload d_W_weight_16 lg3 ?_
    refine Go_iload d_W_weight_17 lg2 ?_
    refine Go_icmp_le d_W_weight_18 (by omega) (by omega) (fun h18 => ?_) (fun h18 => ?_)
    · refine Go_aload d_W_weight_23 lg0 ⟨_, rfl⟩ ?_
      refine Go_const d_W_weight_24 ?_
      refine Go_iload d_W_weight_25 lg3 ?_
      refine Go_S3p d_W_weight_26 (c_W_whole _ _ (by omega) (by omega) (by first | assumption | decide) hB hW) (Nat.le_of_ble_eq_true rfl) ?_
      refine Go_aload d_W_weight_29 lg0 ⟨_, rfl⟩ ?_
      refine Go_iload d_W_weight_30 lg3 ?_
      refine Go_iload d_W_weight_31 lg2 ?_
      refine Go_S3p d_W_weight_32 (c_W_left _ _ (by omega) (by omega) (by first | assumption | decide) hB hW) (Nat.le_of_ble_eq_true rfl) ?_
      refine Go_lmul d_W_weight_35 ?_
      first
        | exact Go_lretV d_W_weight_36 (by unfold wtV; rw [if_pos (by omega)])
        | exact Go_lretV d_W_weight_36 (by unfold wtV; rw [if_neg (by omega), show (lf N i 2 - 0).toNat = (lf N i 2).toNat by omega]; rfl)
    · refine Go_lconst d_W_weight_21 ?_
      first
        | exact Go_lretV d_W_weight_22 (by unfold wtV; rw [if_pos (by omega)])
        | exact Go_lretV d_W_weight_22 (by unfold wtV; rw [if_neg (by omega), show (lf N i 2 - 0).toNat = (lf N i 2).toNat by omega]; rfl)
theorem c_W_fresh (u q : Int) (hu : -2147483648 ≤ u ∧ u < 2147483648) (hq : -2147483648 ≤ q ∧ q < 2147483648) (hc : 1 ≤ c ∧ c ≤ 14) (hB : BR (S c) N) (hW : WF N) : Fn G k_W_fresh [oR G c, vI u, vI q] S (PV (vI (frs N u q)) S) := by
  have hN := hW.1
  obtain ⟨a1, ⟨a2, a3, a4, a5⟩, a6, a7, a8, a9⟩ := id hB
  obtain ⟨hr, i0, i1, i2, i3, i4, i5, i6⟩ := id hN
  refine Fn.of [some (oR G c), some (vI u), some (vI q), none, none] 2 rfl (by decide +kernel) rfl (Nat.le_of_ble_eq_true rfl) (by decide) ?_

  by_cases hu9 : u = 9
  · have hz : ∀ x : Int, (0 : Int) = frs N u q := fun _ => by unfold frs; rw [if_pos hu9]
    refine Go_const d_W_fresh_0 ?_
    refine Go_istore d_W_fresh_1 rfl sa3 ?_
    refine Go_const d_W_fresh_2 ?_
    refine Go_istore d_W_fresh_3 rfl sa4 ?_
    refine Go_iload d_W_fresh_5 lg4 ?_
    refine Go_aload d_W_fresh_7 lg0 ⟨_, rfl⟩ ?_
    refine Go_get d_W_fresh_8 (fb_2 (by first | assumption | decide | omega)) ?_
    refine Go_icmp_ge d_W_fresh_11 (by omega) (by omega) (fun h11 => ?_) (fun h11 => ?_)
    · refine Go_iload d_W_fresh_49 lg3 ?_
      exact Go_iretV d_W_fresh_50 (hz 0)
    · refine Go_iload d_W_fresh_14 lg1 ?_
      refine Go_const d_W_fresh_15 ?_
      refine Go_icmp_eq d_W_fresh_17 (by omega) (by omega) (fun h17 => ?_) (fun h17 => absurd h17 (by omega))
      refine Go_iload d_W_fresh_49 lg3 ?_
      exact Go_iretV d_W_fresh_50 (hz 0)
  · have loop := loopI (fun i => ∀ n : Int, n = cP (fun i => lf N i 0 = u ∧ lf N i 2 = q) i.toNat → Go G k_W_fresh 5 [some (oR G c), some (vI u), some (vI q), some (vI n), some (vI i)] [] S (PV (vI (frs N u q)) S)) (N 5) ?_ ?_
    refine Go_const d_W_fresh_0 ?_
    refine Go_istore d_W_fresh_1 rfl sa3 ?_
    refine Go_const d_W_fresh_2 ?_
    refine Go_istore d_W_fresh_3 rfl sa4 ?_
    exact loop 0 (by omega) (by omega) 0 rfl
    · intro n hn
      refine Go_iload d_W_fresh_5 lg4 ?_
      refine Go_aload d_W_fresh_7 lg0 ⟨_, rfl⟩ ?_
      refine Go_get d_W_fresh_8 (fb_2 (by first | assumption | decide | omega)) ?_
      refine Go_icmp_ge d_W_fresh_11 (by omega) (by omega) (fun h11 => ?_) (fun h11 => absurd h11 (by omega))
      refine Go_iload d_W_fresh_49 lg3 ?_
      exact Go_iretV d_W_fresh_50 (by unfold frs; rw [if_neg hu9]; exact hn)
    · intro i h0 h1 ih n hn
      obtain ⟨l0, l1, l2, l3, l4⟩ := hW.2.2.1 i h0 h1
      have hS := cP_S (fun i => lf N i 0 = u ∧ lf N i 2 = q) h0
      refine Go_iload d_W_fresh_5 lg4 ?_
      refine Go_aload d_W_fresh_7 lg0 ⟨_, rfl⟩ ?_
      refine Go_get d_W_fresh_8 (fb_2 (by first | assumption | decide | omega)) ?_
      refine Go_icmp_ge d_W_fresh_11 (by omega) (by omega) (fun h11 => absurd h11 (by omega)) (fun h11 => ?_)
      refine Go_iload d_W_fresh_14 lg1 ?_
      refine Go_const d_W_fresh_15 ?_
      refine Go_icmp_eq d_W_fresh_17 (by omega) (by omega) (fun h17 => absurd h17 (by omega)) (fun h17 => ?_)
      refine Go_aload d_W_fresh_20 lg0 ⟨_, rfl⟩ ?_
      refine Go_iload d_W_fresh_21 lg4 ?_
      refine Go_V1p d_W_fresh_23 (kB (by first | assumption | decide | omega)) (c_B_senderOf _ (by omega) (by first | assumption | decide) hB hN) (Nat.le_of_ble_eq_true rfl) ?_
      rw [if_pos (by omega)]
      refine Go_iload d_W_fresh_26 lg1 ?_
      refine Go_icmp_ne d_W_fresh_27 (by omega) (by omega) (fun h27 => ?_) (fun h27 => ?_)
      · refine Go_iinc d_W_fresh_43 lg4 rfl sa4 ?_
        refine Go_goto d_W_fresh_46 ?_
        refine ih _ ?_
        rw [hS, hn]
        first
          | rw [← bC1 ⟨by assumption, by assumption⟩]
          | rw [← bC0 (by rintro ⟨z1, z2⟩; contradiction), Int.add_zero]
      · refine Go_aload d_W_fresh_30 lg0 ⟨_, rfl⟩ ?_
        refine Go_iload d_W_fresh_31 lg4 ?_
        refine Go_V1p d_W_fresh_33 (kB (by first | assumption | decide | omega)) (c_B_firstOf _ (by omega) (by first | assumption | decide) hB hN) (Nat.le_of_ble_eq_true rfl) ?_
        rw [if_pos (by omega)]
        refine Go_iload d_W_fresh_36 lg2 ?_
        refine Go_icmp_ne d_W_fresh_37 (by omega) (by omega) (fun h37 => ?_) (fun h37 => ?_)
        · refine Go_iinc d_W_fresh_43 lg4 rfl sa4 ?_
          refine Go_goto d_W_fresh_46 ?_
          refine ih _ ?_
          rw [hS, hn]
          first
            | rw [← bC1 ⟨by assumption, by assumption⟩]
            | rw [← bC0 (by rintro ⟨z1, z2⟩; contradiction), Int.add_zero]
        · refine Go_iinc d_W_fresh_40 lg3 rfl sa3 ?_
          refine Go_iinc d_W_fresh_43 lg4 rfl sa4 ?_
          refine Go_goto d_W_fresh_46 ?_
          refine ih _ ?_
          rw [hS, hn]
          first
            | rw [← bC1 ⟨by assumption, by assumption⟩]
            | rw [← bC0 (by rintro ⟨z1, z2⟩; contradiction), Int.add_zero]
theorem frs_rg (N : Row) (u q : Int) (h5 : N 5 ≤ 79) : 0 ≤ frs N u q ∧ frs N u q ≤ 79 := by
  unfold frs
  have := cP_rg (fun i => lf N i 0 = u ∧ lf N i 2 = q) (N 5).toNat
  split <;> omega
theorem c_W_senderWeight (u r : Int) (hu : -2147483648 ≤ u ∧ u < 2147483648) (hr0 : 0 ≤ r ∧ r < N 6) (hc : 1 ≤ c ∧ c ≤ 14) (hB : BR (S c) N) (hW : WF N) : Fn G k_W_senderWeight [oR G c, vI u, vI r] S (PV (vL (heldV N u r.toNat)) S) := by
  have hN := hW.1
  obtain ⟨a1, ⟨a2, a3, a4, a5⟩, a6, a7, a8, a9⟩ := id hB
  obtain ⟨hr, i0, i1, i2, i3, i4, i5, i6⟩ := id hN
  refine Fn.of [some (oR G c), some (vI u), some (vI r), none, none, none, none, none] 5 rfl (by decide +kernel) rfl (Nat.le_of_ble_eq_true rfl) (by decide) ?_

  have loop := loopI (fun q => ∀ z x, z = heldV N u q.toNat → x = prS (mM N) 0 q.toNat → Go G k_W_senderWeight 14 [some (oR G c), some (vI u), some (vI r), some (vL z), none, some (vL x), none, some (vI q)] [] S (PV (vL (heldV N u r.toNat)) S)) r ?_ ?_
  refine Go_aload d_W_senderWeight_0 lg0 ⟨_, rfl⟩ ?_
  refine Go_iload d_W_senderWeight_1 lg1 ?_
  refine Go_const d_W_senderWeight_2 ?_
  refine Go_S3p d_W_senderWeight_3 (c_W_fresh _ _ (by omega) (by omega) (by first | assumption | decide) hB hW) (Nat.le_of_ble_eq_true rfl) ?_
  refine Go_i2l d_W_senderWeight_6 (by have := frs_rg N u 0 (by omega); omega) ?_
  refine Go_lstore d_W_senderWeight_7 rfl sb3 ?_
  refine Go_lconst d_W_senderWeight_8 ?_
  refine Go_lstore d_W_senderWeight_9 rfl sb5 ?_
  refine Go_const d_W_senderWeight_11 ?_
  refine Go_istore d_W_senderWeight_12 rfl sa7 ?_
  exact loop 0 (by omega) (by omega) _ 1 rfl rfl
  · intro z x hz hx
    refine Go_iload d_W_senderWeight_14 lg7 ?_
    refine Go_iload d_W_senderWeight_16 lg2 ?_
    refine Go_icmp_ge d_W_senderWeight_17 (by omega) (by omega) (fun h17 => ?_) (fun h17 => absurd h17 (by omega))
    refine Go_lload d_W_senderWeight_60 lg3 ?_
    exact Go_lretV d_W_senderWeight_61 hz
  · intro q h0 h1 ih z x hz hx
    have hfr := frs_rg N u (q + 1) (by omega)
    refine Go_iload d_W_senderWeight_14 lg7 ?_
    refine Go_iload d_W_senderWeight_16 lg2 ?_
    refine Go_icmp_ge d_W_senderWeight_17 (by omega) (by omega) (fun h17 => absurd h17 (by omega)) (fun h17 => ?_)
    refine Go_lload d_W_senderWeight_20 lg5 ?_
    refine Go_aload d_W_senderWeight_22 lg0 ⟨_, rfl⟩ ?_
    refine Go_iload d_W_senderWeight_23 lg7 ?_
    refine Go_S2p d_W_senderWeight_25 (c_W_share _ (by omega) (by first | assumption | decide) hB hW) (Nat.le_of_ble_eq_true rfl) ?_
    refine Go_lmul d_W_senderWeight_28 ?_
    refine Go_lstore d_W_senderWeight_29 rfl sb5 ?_
    refine Go_lload d_W_senderWeight_31 lg3 ?_
    refine Go_aload d_W_senderWeight_32 lg0 ⟨_, rfl⟩ ?_
    refine Go_iload d_W_senderWeight_33 lg7 ?_
    refine Go_S2p d_W_senderWeight_35 (c_W_kept _ (by omega) (by first | assumption | decide) hB hW) (Nat.le_of_ble_eq_true rfl) ?_
    refine Go_lmul d_W_senderWeight_38 ?_
    refine Go_lload d_W_senderWeight_39 lg5 ?_
    refine Go_aload d_W_senderWeight_41 lg0 ⟨_, rfl⟩ ?_
    refine Go_iload d_W_senderWeight_42 lg1 ?_
    refine Go_iload d_W_senderWeight_43 lg7 ?_
    refine Go_const d_W_senderWeight_45 ?_
    refine Go_iadd d_W_senderWeight_46 ?_
    refine Go_S3p d_W_senderWeight_47 (c_W_fresh _ _ (by omega) (by omega) (by first | assumption | decide) hB hW) (Nat.le_of_ble_eq_true rfl) ?_
    refine Go_i2l d_W_senderWeight_50 (by omega) ?_
    refine Go_lmul d_W_senderWeight_51 ?_
    refine Go_ladd d_W_senderWeight_52 ?_
    refine Go_lstore d_W_senderWeight_53 rfl sb3 ?_
    refine Go_iinc d_W_senderWeight_54 lg7 rfl sa7 ?_
    refine Go_goto d_W_senderWeight_57 ?_
    have ex : x * sh (mM N q.toNat) = prS (mM N) 0 (q + 1).toNat := by
      rw [show (q + 1).toNat = q.toNat + 1 by omega, hx]
      show _ = prS (mM N) 0 q.toNat * sh (mM N (0 + q.toNat))
      rw [Nat.zero_add]
    refine ih _ _ ?_ ex
    rw [ex, show (q + 1).toNat = q.toNat + 1 by omega, hz]
    show _ = heldV N u q.toNat * (mM N q.toNat - mJ N q.toNat) + prS (mM N) 0 (q.toNat + 1) * frs N u ((q.toNat + 1 : Nat) : Int)
    rw [show ((q.toNat + 1 : Nat) : Int) = q + 1 by omega]
theorem c_W_outsTo1 (r x : Int) (hr0 : 0 ≤ r ∧ r < N 6) (hx : -2147483648 ≤ x ∧ x < 2147483648) (hc : 1 ≤ c ∧ c ≤ 14) (hB : BR (S c) N) (hW : WF N) : Fn G k_W_outsTo [oR G c, vI r, vI x, vI 1] S (PV (vI (oT N r x True)) S) := by
  have hN := hW.1
  obtain ⟨a1, ⟨a2, a3, a4, a5⟩, a6, a7, a8, a9⟩ := id hB
  obtain ⟨hr, i0, i1, i2, i3, i4, i5, i6⟩ := id hN
  have hro := rof_0 N r 1 (N 5).toNat
  have hbij := outs_bij hW hr0 (fun k k0 k1 => (a9 r k hr0.1 hr0.2 k0 k1).2.1) (fun i => lf N i 1 = x ∧ (lf N i 0 = 9 ↔ True))
  refine Fn.of [some (oR G c), some (vI r), some (vI x), some (vI 1), none, none, none] 3 rfl (by decide +kernel) rfl (Nat.le_of_ble_eq_true rfl) (by decide) ?_

  have loop := loopI (fun k => ∀ n : Int, n = cP (fun k => lf N (lout N r k (N 5).toNat) 1 = x ∧ (lf N (lout N r k (N 5).toNat) 0 = 9 ↔ True)) k.toNat → Go G k_W_outsTo 6 [some (oR G c), some (vI r), some (vI x), some (vI 1), some (vI n), some (vI k), none] [] S (PV (vI (oT N r x True)) S)) (rof N r 1 (N 5).toNat) ?_ ?_
  refine Go_const d_W_outsTo_0 ?_
  refine Go_istore d_W_outsTo_1 rfl sa4 ?_
  refine Go_const d_W_outsTo_3 ?_
  refine Go_istore d_W_outsTo_4 rfl sa5 ?_
  exact loop 0 (by omega) (by omega) 0 rfl
  · intro n hn
    refine Go_iload d_W_outsTo_6 lg5 ?_
    refine Go_aload d_W_outsTo_8 lg0 ⟨_, rfl⟩ ?_
    refine Go_iload d_W_outsTo_9 lg1 ?_
    refine Go_const d_W_outsTo_10 ?_
    refine Go_V2p d_W_outsTo_11 (kB (by first | assumption | decide | omega)) (c_B_fact _ _ (by omega) (by omega) (by first | assumption | decide) hB hN) (Nat.le_of_ble_eq_true rfl) ?_
    rw [if_pos (by omega)]
    refine Go_icmp_ge d_W_outsTo_14 (by omega) (by omega) (fun h14 => ?_) (fun h14 => absurd h14 (by omega))
    refine Go_iload d_W_outsTo_65 lg4 ?_
    exact Go_iretV d_W_outsTo_67 (by rw [hn]; exact hbij)
  · intro k h0 h1 ih n hn
    obtain ⟨z1, z2, z3⟩ := a9 r k hr0.1 hr0.2 h0 h1
    have hlo := lout_rg N r k (N 5).toNat
    have hS := cP_S (fun k => lf N (lout N r k (N 5).toNat) 1 = x ∧ (lf N (lout N r k (N 5).toNat) 0 = 9 ↔ True)) h0
    try dsimp only at hS
    generalize hgl : lout N r k (N 5).toNat = g at *
    obtain ⟨l0, l1, l2, l3, l4⟩ := hW.2.2.1 g (by omega) (by omega)
    refine Go_iload d_W_outsTo_6 lg5 ?_
    refine Go_aload d_W_outsTo_8 lg0 ⟨_, rfl⟩ ?_
    refine Go_iload d_W_outsTo_9 lg1 ?_
    refine Go_const d_W_outsTo_10 ?_
    refine Go_V2p d_W_outsTo_11 (kB (by first | assumption | decide | omega)) (c_B_fact _ _ (by omega) (by omega) (by first | assumption | decide) hB hN) (Nat.le_of_ble_eq_true rfl) ?_
    rw [if_pos (by omega)]
    refine Go_icmp_ge d_W_outsTo_14 (by omega) (by omega) (fun h14 => absurd h14 (by omega)) (fun h14 => ?_)
    refine Go_aload d_W_outsTo_17 lg0 ⟨_, rfl⟩ ?_
    refine Go_iload d_W_outsTo_18 lg1 ?_
    refine Go_iload d_W_outsTo_19 lg5 ?_
    refine Go_V2p d_W_outsTo_21 (kB (by first | assumption | decide | omega)) (c_B_outLetter _ _ (by omega) (by omega) (by first | assumption | decide) hB hN) (Nat.le_of_ble_eq_true rfl) ?_
    rw [if_pos (by omega), hgl]
    refine Go_istore d_W_outsTo_24 rfl sa6 ?_
    refine Go_aload d_W_outsTo_26 lg0 ⟨_, rfl⟩ ?_
    refine Go_iload d_W_outsTo_27 lg6 ?_
    refine Go_V1p d_W_outsTo_29 (kB (by first | assumption | decide | omega)) (c_B_receiverOf _ (by omega) (by first | assumption | decide) hB hN) (Nat.le_of_ble_eq_true rfl) ?_
    rw [if_pos (by omega)]
    refine Go_iload d_W_outsTo_32 lg2 ?_
    refine Go_icmp_ne d_W_outsTo_33 (by omega) (by omega) (fun h33 => ?_) (fun h33 => ?_)
    · refine Go_iinc d_W_outsTo_59 lg5 rfl sa5 ?_
      refine Go_goto d_W_outsTo_62 ?_
      first
        | (exfalso; omega)
        | (refine fg6 (ih _ ?_)
           rw [hS, hn]
           first
             | rw [← bC1 ⟨by assumption, by simp; assumption⟩]
             | rw [← bC0 (by rintro ⟨y1, y2⟩; simp at y2; contradiction), Int.add_zero])
    · refine Go_aload d_W_outsTo_36 lg0 ⟨_, rfl⟩ ?_
      refine Go_iload d_W_outsTo_37 lg6 ?_
      refine Go_V1p d_W_outsTo_39 (kB (by first | assumption | decide | omega)) (c_B_senderOf _ (by omega) (by first | assumption | decide) hB hN) (Nat.le_of_ble_eq_true rfl) ?_
      rw [if_pos (by omega)]
      refine Go_const d_W_outsTo_42 ?_
      refine Go_icmp_ne d_W_outsTo_44 (by omega) (by omega) (fun h44 => ?_) (fun h44 => ?_)
      · refine Go_const d_W_outsTo_51 ?_
        refine Go_iload d_W_outsTo_52 lg3 ?_
        refine Go_icmp_ne d_W_outsTo_53 (by omega) (by omega) (fun h53 => ?_) (fun h53 => ?_)
        · refine Go_iinc d_W_outsTo_59 lg5 rfl sa5 ?_
          refine Go_goto d_W_outsTo_62 ?_
          first
            | (exfalso; omega)
            | (refine fg6 (ih _ ?_)
               rw [hS, hn]
               first
                 | rw [← bC1 ⟨by assumption, by simp; assumption⟩]
                 | rw [← bC0 (by rintro ⟨y1, y2⟩; simp at y2; contradiction), Int.add_zero])
        · refine Go_iinc d_W_outsTo_56 lg4 rfl sa4 ?_
          refine Go_iinc d_W_outsTo_59 lg5 rfl sa5 ?_
          refine Go_goto d_W_outsTo_62 ?_
          first
            | (exfalso; omega)
            | (refine fg6 (ih _ ?_)
               rw [hS, hn]
               first
                 | rw [← bC1 ⟨by assumption, by simp; assumption⟩]
                 | rw [← bC0 (by rintro ⟨y1, y2⟩; simp at y2; contradiction), Int.add_zero])
      · refine Go_const d_W_outsTo_47 ?_
        refine Go_goto d_W_outsTo_48 ?_
        refine Go_iload d_W_outsTo_52 lg3 ?_
        refine Go_icmp_ne d_W_outsTo_53 (by omega) (by omega) (fun h53 => ?_) (fun h53 => ?_)
        · refine Go_iinc d_W_outsTo_59 lg5 rfl sa5 ?_
          refine Go_goto d_W_outsTo_62 ?_
          first
            | (exfalso; omega)
            | (refine fg6 (ih _ ?_)
               rw [hS, hn]
               first
                 | rw [← bC1 ⟨by assumption, by simp; assumption⟩]
                 | rw [← bC0 (by rintro ⟨y1, y2⟩; simp at y2; contradiction), Int.add_zero])
        · refine Go_iinc d_W_outsTo_56 lg4 rfl sa4 ?_
          refine Go_iinc d_W_outsTo_59 lg5 rfl sa5 ?_
          refine Go_goto d_W_outsTo_62 ?_
          first
            | (exfalso; omega)
            | (refine fg6 (ih _ ?_)
               rw [hS, hn]
               first
                 | rw [← bC1 ⟨by assumption, by simp; assumption⟩]
                 | rw [← bC0 (by rintro ⟨y1, y2⟩; simp at y2; contradiction), Int.add_zero])
theorem c_W_outsTo0 (r x : Int) (hr0 : 0 ≤ r ∧ r < N 6) (hx : -2147483648 ≤ x ∧ x < 2147483648) (hc : 1 ≤ c ∧ c ≤ 14) (hB : BR (S c) N) (hW : WF N) : Fn G k_W_outsTo [oR G c, vI r, vI x, vI 0] S (PV (vI (oT N r x False)) S) := by
  have hN := hW.1
  obtain ⟨a1, ⟨a2, a3, a4, a5⟩, a6, a7, a8, a9⟩ := id hB
  obtain ⟨hr, i0, i1, i2, i3, i4, i5, i6⟩ := id hN
  have hro := rof_0 N r 1 (N 5).toNat
  have hbij := outs_bij hW hr0 (fun k k0 k1 => (a9 r k hr0.1 hr0.2 k0 k1).2.1) (fun i => lf N i 1 = x ∧ (lf N i 0 = 9 ↔ False))
  refine Fn.of [some (oR G c), some (vI r), some (vI x), some (vI 0), none, none, none] 3 rfl (by decide +kernel) rfl (Nat.le_of_ble_eq_true rfl) (by decide) ?_

  have loop := loopI (fun k => ∀ n : Int, n = cP (fun k => lf N (lout N r k (N 5).toNat) 1 = x ∧ (lf N (lout N r k (N 5).toNat) 0 = 9 ↔ False)) k.toNat → Go G k_W_outsTo 6 [some (oR G c), some (vI r), some (vI x), some (vI 0), some (vI n), some (vI k), none] [] S (PV (vI (oT N r x False)) S)) (rof N r 1 (N 5).toNat) ?_ ?_
  refine Go_const d_W_outsTo_0 ?_
  refine Go_istore d_W_outsTo_1 rfl sa4 ?_
  refine Go_const d_W_outsTo_3 ?_
  refine Go_istore d_W_outsTo_4 rfl sa5 ?_
  exact loop 0 (by omega) (by omega) 0 rfl
  · intro n hn
    refine Go_iload d_W_outsTo_6 lg5 ?_
    refine Go_aload d_W_outsTo_8 lg0 ⟨_, rfl⟩ ?_
    refine Go_iload d_W_outsTo_9 lg1 ?_
    refine Go_const d_W_outsTo_10 ?_
    refine Go_V2p d_W_outsTo_11 (kB (by first | assumption | decide | omega)) (c_B_fact _ _ (by omega) (by omega) (by first | assumption | decide) hB hN) (Nat.le_of_ble_eq_true rfl) ?_
    rw [if_pos (by omega)]
    refine Go_icmp_ge d_W_outsTo_14 (by omega) (by omega) (fun h14 => ?_) (fun h14 => absurd h14 (by omega))
    refine Go_iload d_W_outsTo_65 lg4 ?_
    exact Go_iretV d_W_outsTo_67 (by rw [hn]; exact hbij)
  · intro k h0 h1 ih n hn
    obtain ⟨z1, z2, z3⟩ := a9 r k hr0.1 hr0.2 h0 h1
    have hlo := lout_rg N r k (N 5).toNat
    have hS := cP_S (fun k => lf N (lout N r k (N 5).toNat) 1 = x ∧ (lf N (lout N r k (N 5).toNat) 0 = 9 ↔ False)) h0
    try dsimp only at hS
    generalize hgl : lout N r k (N 5).toNat = g at *
    obtain ⟨l0, l1, l2, l3, l4⟩ := hW.2.2.1 g (by omega) (by omega)
    refine Go_iload d_W_outsTo_6 lg5 ?_
    refine Go_aload d_W_outsTo_8 lg0 ⟨_, rfl⟩ ?_
    refine Go_iload d_W_outsTo_9 lg1 ?_
    refine Go_const d_W_outsTo_10 ?_
    refine Go_V2p d_W_outsTo_11 (kB (by first | assumption | decide | omega)) (c_B_fact _ _ (by omega) (by omega) (by first | assumption | decide) hB hN) (Nat.le_of_ble_eq_true rfl) ?_
    rw [if_pos (by omega)]
    refine Go_icmp_ge d_W_outsTo_14 (by omega) (by omega) (fun h14 => absurd h14 (by omega)) (fun h14 => ?_)
    refine Go_aload d_W_outsTo_17 lg0 ⟨_, rfl⟩ ?_
    refine Go_iload d_W_outsTo_18 lg1 ?_
    refine Go_iload d_W_outsTo_19 lg5 ?_
    refine Go_V2p d_W_outsTo_21 (kB (by first | assumption | decide | omega)) (c_B_outLetter _ _ (by omega) (by omega) (by first | assumption | decide) hB hN) (Nat.le_of_ble_eq_true rfl) ?_
    rw [if_pos (by omega), hgl]
    refine Go_istore d_W_outsTo_24 rfl sa6 ?_
    refine Go_aload d_W_outsTo_26 lg0 ⟨_, rfl⟩ ?_
    refine Go_iload d_W_outsTo_27 lg6 ?_
    refine Go_V1p d_W_outsTo_29 (kB (by first | assumption | decide | omega)) (c_B_receiverOf _ (by omega) (by first | assumption | decide) hB hN) (Nat.le_of_ble_eq_true rfl) ?_
    rw [if_pos (by omega)]
    refine Go_iload d_W_outsTo_32 lg2 ?_
    refine Go_icmp_ne d_W_outsTo_33 (by omega) (by omega) (fun h33 => ?_) (fun h33 => ?_)
    · refine Go_iinc d_W_outsTo_59 lg5 rfl sa5 ?_
      refine Go_goto d_W_outsTo_62 ?_
      first
        | (exfalso; omega)
        | (refine fg6 (ih _ ?_)
           rw [hS, hn]
           first
             | rw [← bC1 ⟨by assumption, by simp; assumption⟩]
             | rw [← bC0 (by rintro ⟨y1, y2⟩; simp at y2; contradiction), Int.add_zero])
    · refine Go_aload d_W_outsTo_36 lg0 ⟨_, rfl⟩ ?_
      refine Go_iload d_W_outsTo_37 lg6 ?_
      refine Go_V1p d_W_outsTo_39 (kB (by first | assumption | decide | omega)) (c_B_senderOf _ (by omega) (by first | assumption | decide) hB hN) (Nat.le_of_ble_eq_true rfl) ?_
      rw [if_pos (by omega)]
      refine Go_const d_W_outsTo_42 ?_
      refine Go_icmp_ne d_W_outsTo_44 (by omega) (by omega) (fun h44 => ?_) (fun h44 => ?_)
      · refine Go_const d_W_outsTo_51 ?_
        refine Go_iload d_W_outsTo_52 lg3 ?_
        refine Go_icmp_ne d_W_outsTo_53 (by omega) (by omega) (fun h53 => ?_) (fun h53 => ?_)
        · refine Go_iinc d_W_outsTo_59 lg5 rfl sa5 ?_
          refine Go_goto d_W_outsTo_62 ?_
          first
            | (exfalso; omega)
            | (refine fg6 (ih _ ?_)
               rw [hS, hn]
               first
                 | rw [← bC1 ⟨by assumption, by simp; assumption⟩]
                 | rw [← bC0 (by rintro ⟨y1, y2⟩; simp at y2; contradiction), Int.add_zero])
        · refine Go_iinc d_W_outsTo_56 lg4 rfl sa4 ?_
          refine Go_iinc d_W_outsTo_59 lg5 rfl sa5 ?_
          refine Go_goto d_W_outsTo_62 ?_
          first
            | (exfalso; omega)
            | (refine fg6 (ih _ ?_)
               rw [hS, hn]
               first
                 | rw [← bC1 ⟨by assumption, by simp; assumption⟩]
                 | rw [← bC0 (by rintro ⟨y1, y2⟩; simp at y2; contradiction), Int.add_zero])
      · refine Go_const d_W_outsTo_47 ?_
        refine Go_goto d_W_outsTo_48 ?_
        refine Go_iload d_W_outsTo_52 lg3 ?_
        refine Go_icmp_ne d_W_outsTo_53 (by omega) (by omega) (fun h53 => ?_) (fun h53 => ?_)
        · refine Go_iinc d_W_outsTo_59 lg5 rfl sa5 ?_
          refine Go_goto d_W_outsTo_62 ?_
          first
            | (exfalso; omega)
            | (refine fg6 (ih _ ?_)
               rw [hS, hn]
               first
                 | rw [← bC1 ⟨by assumption, by simp; assumption⟩]
                 | rw [← bC0 (by rintro ⟨y1, y2⟩; simp at y2; contradiction), Int.add_zero])
        · refine Go_iinc d_W_outsTo_56 lg4 rfl sa4 ?_
          refine Go_iinc d_W_outsTo_59 lg5 rfl sa5 ?_
          refine Go_goto d_W_outsTo_62 ?_
          first
            | (exfalso; omega)
            | (refine fg6 (ih _ ?_)
               rw [hS, hn]
               first
                 | rw [← bC1 ⟨by assumption, by simp; assumption⟩]
                 | rw [← bC0 (by rintro ⟨y1, y2⟩; simp at y2; contradiction), Int.add_zero])
theorem oT_rg (N : Row) (r x : Int) (o : Prop) (h5 : N 5 ≤ 79) : 0 ≤ oT N r x o ∧ oT N r x o ≤ 79 := by
  unfold oT
  have := cP_rg (fun i => lf N i 3 = r ∧ lf N i 1 = x ∧ (lf N i 0 = 9 ↔ o)) (N 5).toNat
  omega
theorem c_W_expectedWeight (u x : Int) (hu : -2147483648 ≤ u ∧ u < 2147483648) (hx : -2147483648 ≤ x ∧ x < 2147483648) (hc : 1 ≤ c ∧ c ≤ 14) (hB : BR (S c) N) (hW : WF N) : Fn G k_W_expectedWeight [oR G c, vI u, vI x] S (PV (vL (esV N u x (N 6).toNat)) S) := by
  have hN := hW.1
  obtain ⟨a1, ⟨a2, a3, a4, a5⟩, a6, a7, a8, a9⟩ := id hB
  obtain ⟨hr, i0, i1, i2, i3, i4, i5, i6⟩ := id hN
  refine Fn.of [some (oR G c), some (vI u), some (vI x), none, none, none, none, none, none, none, none, none] 9 rfl (by decide +kernel) rfl (Nat.le_of_ble_eq_true rfl) (by decide) ?_

  have loop := loopI (fun q => ∀ e z y, e = esV N u x q.toNat → z = heldV N u q.toNat → y = prS (mM N) 0 q.toNat → Go G k_W_expectedWeight 17 [some (oR G c), some (vI u), some (vI x), some (vL e), none, some (vL z), none, some (vL y), none, some (vI q), none, none] [] S (PV (vL (esV N u x (N 6).toNat)) S)) (N 6) ?_ ?_
  refine Go_lconst d_W_expectedWeight_0 ?_
  refine Go_lstore d_W_expectedWeight_1 rfl sb3 ?_
  refine Go_aload d_W_expectedWeight_2 lg0 ⟨_, rfl⟩ ?_
  refine Go_iload d_W_expectedWeight_3 lg1 ?_
  refine Go_const d_W_expectedWeight_4 ?_
  refine Go_S3p d_W_expectedWeight_5 (c_W_fresh _ _ (by omega) (by omega) (by first | assumption | decide) hB hW) (Nat.le_of_ble_eq_true rfl) ?_
  refine Go_i2l d_W_expectedWeight_8 (by have := frs_rg N u 0 (by omega); omega) ?_
  refine Go_lstore d_W_expectedWeight_9 rfl sb5 ?_
  refine Go_lconst d_W_expectedWeight_11 ?_
  refine Go_lstore d_W_expectedWeight_12 rfl sb7 ?_
  refine Go_const d_W_expectedWeight_14 ?_
  refine Go_istore d_W_expectedWeight_15 rfl sa9 ?_
  exact loop 0 (by omega) (by omega) 0 _ 1 rfl rfl rfl
  · intro e z y he hz hy
    refine Go_iload d_W_expectedWeight_17 lg9 ?_
    refine Go_aload d_W_expectedWeight_19 lg0 ⟨_, rfl⟩ ?_
    refine Go_get d_W_expectedWeight_20 (fb_10 (by first | assumption | decide | omega)) ?_
    refine Go_icmp_ge d_W_expectedWeight_23 (by omega) (by omega) (fun h23 => ?_) (fun h23 => absurd h23 (by omega))
    refine Go_lload d_W_expectedWeight_115 lg3 ?_
    exact Go_lretV d_W_expectedWeight_116 he
  · intro q h0 h1 ih e z y he hz hy
    have hfr := frs_rg N u (q + 1) (by omega)
    have ho1 := oT_rg N q x True (by omega)
    have ho0 := oT_rg N q x False (by omega)
    have ex : y * sh (mM N q.toNat) = prS (mM N) 0 (q + 1).toNat := by
      rw [show (q + 1).toNat = q.toNat + 1 by omega, hy]
      show _ = prS (mM N) 0 q.toNat * sh (mM N (0 + q.toNat))
      rw [Nat.zero_add]
    refine Go_iload d_W_expectedWeight_17 lg9 ?_
    refine Go_aload d_W_expectedWeight_19 lg0 ⟨_, rfl⟩ ?_
    refine Go_get d_W_expectedWeight_20 (fb_10 (by first | assumption | decide | omega)) ?_
    refine Go_icmp_ge d_W_expectedWeight_23 (by omega) (by omega) (fun h23 => absurd h23 (by omega)) (fun h23 => ?_)
    refine Go_lload d_W_expectedWeight_26 lg7 ?_
    refine Go_aload d_W_expectedWeight_28 lg0 ⟨_, rfl⟩ ?_
    refine Go_iload d_W_expectedWeight_29 lg9 ?_
    refine Go_S2p d_W_expectedWeight_31 (c_W_share _ (by omega) (by first | assumption | decide) hB hW) (Nat.le_of_ble_eq_true rfl) ?_
    refine Go_lmul d_W_expectedWeight_34 ?_
    refine Go_lstore d_W_expectedWeight_35 rfl sb7 ?_
    refine Go_iload d_W_expectedWeight_37 lg1 ?_
    refine Go_const d_W_expectedWeight_38 ?_
    refine Go_icmp_ne d_W_expectedWeight_40 (by omega) (by omega) (fun h40 => ?_) (fun h40 => ?_)
    · refine Go_lload d_W_expectedWeight_58 lg5 ?_
      refine Go_aload d_W_expectedWeight_60 lg0 ⟨_, rfl⟩ ?_
      refine Go_iload d_W_expectedWeight_61 lg9 ?_
      refine Go_iload d_W_expectedWeight_63 lg2 ?_
      refine Go_const d_W_expectedWeight_64 ?_
      refine Go_S4p d_W_expectedWeight_65 (c_W_outsTo0 _ _ (by omega) hx (by first | assumption | decide) hB hW) (Nat.le_of_ble_eq_true rfl) ?_
      refine Go_i2l d_W_expectedWeight_68 (by omega) ?_
      refine Go_lmul d_W_expectedWeight_69 ?_
      refine Go_lstore d_W_expectedWeight_70 rfl sb10 ?_
      refine Go_lload d_W_expectedWeight_72 lg3 ?_
      refine Go_aload d_W_expectedWeight_73 lg0 ⟨_, rfl⟩ ?_
      refine Go_iload d_W_expectedWeight_74 lg9 ?_
      refine Go_S2p d_W_expectedWeight_76 (c_W_share _ (by omega) (by first | assumption | decide) hB hW) (Nat.le_of_ble_eq_true rfl) ?_
      refine Go_lmul d_W_expectedWeight_79 ?_
      refine Go_lload d_W_expectedWeight_80 lg10 ?_
      refine Go_ladd d_W_expectedWeight_82 ?_
      refine Go_lstore d_W_expectedWeight_83 rfl sb3 ?_
      refine Go_lload d_W_expectedWeight_84 lg5 ?_
      refine Go_aload d_W_expectedWeight_86 lg0 ⟨_, rfl⟩ ?_
      refine Go_iload d_W_expectedWeight_87 lg9 ?_
      refine Go_S2p d_W_expectedWeight_89 (c_W_kept _ (by omega) (by first | assumption | decide) hB hW) (Nat.le_of_ble_eq_true rfl) ?_
      refine Go_lmul d_W_expectedWeight_92 ?_
      refine Go_lload d_W_expectedWeight_93 lg7 ?_
      refine Go_aload d_W_expectedWeight_95 lg0 ⟨_, rfl⟩ ?_
      refine Go_iload d_W_expectedWeight_96 lg1 ?_
      refine Go_iload d_W_expectedWeight_97 lg9 ?_
      refine Go_const d_W_expectedWeight_99 ?_
      refine Go_iadd d_W_expectedWeight_100 ?_
      refine Go_S3p d_W_expectedWeight_101 (c_W_fresh _ _ (by omega) (by omega) (by first | assumption | decide) hB hW) (Nat.le_of_ble_eq_true rfl) ?_
      refine Go_i2l d_W_expectedWeight_104 (by omega) ?_
      refine Go_lmul d_W_expectedWeight_105 ?_
      refine Go_ladd d_W_expectedWeight_106 ?_
      refine Go_lstore d_W_expectedWeight_107 rfl sb5 ?_
      refine Go_iinc d_W_expectedWeight_109 lg9 rfl sa9 ?_
      refine Go_goto d_W_expectedWeight_112 ?_
      refine fg10 (ih _ _ _ ?_ ?_ ex)
      · rw [show (q + 1).toNat = q.toNat + 1 by omega, he]
        show _ = esV N u x q.toNat * sh (mM N q.toNat) + inR N u x q.toNat
        unfold inR
        rw [show ((q.toNat : Nat) : Int) = q by omega]
        first
          | rw [if_pos h40, ex, show (q + 1).toNat = q.toNat + 1 by omega]
          | rw [if_neg h40, hz]
      · rw [ex, show (q + 1).toNat = q.toNat + 1 by omega, hz]
        show _ = heldV N u q.toNat * (mM N q.toNat - mJ N q.toNat) + prS (mM N) 0 (q.toNat + 1) * frs N u ((q.toNat + 1 : Nat) : Int)
        rw [show ((q.toNat + 1 : Nat) : Int) = q + 1 by omega]
    · refine Go_lload d_W_expectedWeight_43 lg7 ?_
      refine Go_aload d_W_expectedWeight_45 lg0 ⟨_, rfl⟩ ?_
      refine Go_iload d_W_expectedWeight_46 lg9 ?_
      refine Go_iload d_W_expectedWeight_48 lg2 ?_
      refine Go_const d_W_expectedWeight_49 ?_
      refine Go_S4p d_W_expectedWeight_50 (c_W_outsTo1 _ _ (by omega) hx (by first | assumption | decide) hB hW) (Nat.le_of_ble_eq_true rfl) ?_
      refine Go_i2l d_W_expectedWeight_53 (by omega) ?_
      refine Go_lmul d_W_expectedWeight_54 ?_
      refine Go_goto d_W_expectedWeight_55 ?_
      refine Go_lstore d_W_expectedWeight_70 rfl sb10 ?_
      refine Go_lload d_W_expectedWeight_72 lg3 ?_
      refine Go_aload d_W_expectedWeight_73 lg0 ⟨_, rfl⟩ ?_
      refine Go_iload d_W_expectedWeight_74 lg9 ?_
      refine Go_S2p d_W_expectedWeight_76 (c_W_share _ (by omega) (by first | assumption | decide) hB hW) (Nat.le_of_ble_eq_true rfl) ?_
      refine Go_lmul d_W_expectedWeight_79 ?_
      refine Go_lload d_W_expectedWeight_80 lg10 ?_
      refine Go_ladd d_W_expectedWeight_82 ?_
      refine Go_lstore d_W_expectedWeight_83 rfl sb3 ?_
      refine Go_lload d_W_expectedWeight_84 lg5 ?_
      refine Go_aload d_W_expectedWeight_86 lg0 ⟨_, rfl⟩ ?_
      refine Go_iload d_W_expectedWeight_87 lg9 ?_
      refine Go_S2p d_W_expectedWeight_89 (c_W_kept _ (by omega) (by first | assumption | decide) hB hW) (Nat.le_of_ble_eq_true rfl) ?_
      refine Go_lmul d_W_expectedWeight_92 ?_
      refine Go_lload d_W_expectedWeight_93 lg7 ?_
      refine Go_aload d_W_expectedWeight_95 lg0 ⟨_, rfl⟩ ?_
      refine Go_iload d_W_expectedWeight_96 lg1 ?_
      refine Go_iload d_W_expectedWeight_97 lg9 ?_
      refine Go_const d_W_expectedWeight_99 ?_
      refine Go_iadd d_W_expectedWeight_100 ?_
      refine Go_S3p d_W_expectedWeight_101 (c_W_fresh _ _ (by omega) (by omega) (by first | assumption | decide) hB hW) (Nat.le_of_ble_eq_true rfl) ?_
      refine Go_i2l d_W_expectedWeight_104 (by omega) ?_
      refine Go_lmul d_W_expectedWeight_105 ?_
      refine Go_ladd d_W_expectedWeight_106 ?_
      refine Go_lstore d_W_expectedWeight_107 rfl sb5 ?_
      refine Go_iinc d_W_expectedWeight_109 lg9 rfl sa9 ?_
      refine Go_goto d_W_expectedWeight_112 ?_
      refine fg10 (ih _ _ _ ?_ ?_ ex)
      · rw [show (q + 1).toNat = q.toNat + 1 by omega, he]
        show _ = esV N u x q.toNat * sh (mM N q.toNat) + inR N u x q.toNat
        unfold inR
        rw [show ((q.toNat : Nat) : Int) = q by omega]
        first
          | rw [if_pos h40, ex, show (q + 1).toNat = q.toNat + 1 by omega]
          | rw [if_neg h40, hz]
      · rw [ex, show (q + 1).toNat = q.toNat + 1 by omega, hz]
        show _ = heldV N u q.toNat * (mM N q.toNat - mJ N q.toNat) + prS (mM N) 0 (q.toNat + 1) * frs N u ((q.toNat + 1 : Nat) : Int)
        rw [show ((q.toNat + 1 : Nat) : Int) = q + 1 by omega]
theorem c_W_possible (r k : Int) (ho : ((0 ≤ r ∧ r < N 6) ∧ 0 ≤ k ∧ k < rof N r 1 (N 5).toNat)) (hc : 1 ≤ c ∧ c ≤ 14) (hB : BR (S c) N) (hW : WF N) : Fn G k_W_possible [oR G c, vI r, vI k] S (PV (vI (if lf N (lout N r k (N 5).toNat) 0 = 9 then 1 else cP (fun i => 0 < wtV N i r) (N 5).toNat)) S) := by
  have hN := hW.1
  obtain ⟨a1, ⟨a2, a3, a4, a5⟩, a6, a7, a8, a9⟩ := id hB
  obtain ⟨hr, i0, i1, i2, i3, i4, i5, i6⟩ := id hN
  have hro := rof_0 N r 1 (N 5).toNat
  refine Fn.of [some (oR G c), some (vI r), some (vI k), none, none] 2 rfl (by decide +kernel) rfl (Nat.le_of_ble_eq_true rfl) (by decide) ?_

  have loop := loopI (fun i => lf N (lout N r k (N 5).toNat) 0 ≠ 9 → ∀ n : Int, n = cP (fun i => 0 < wtV N i r) i.toNat → Go G k_W_possible 16 [some (oR G c), some (vI r), some (vI k), some (vI n), some (vI i)] [] S (PV (vI (if lf N (lout N r k (N 5).toNat) 0 = 9 then 1 else cP (fun i => 0 < wtV N i r) (N 5).toNat)) S)) (N 5) ?_ ?_
  refine Go_aload d_W_possible_0 lg0 ⟨_, rfl⟩ ?_
  refine Go_iload d_W_possible_1 lg1 ?_
  refine Go_iload d_W_possible_2 lg2 ?_
  refine Go_V2p d_W_possible_3 (kB (by first | assumption | decide | omega)) (c_B_isOwnOut _ _ (by omega) (by omega) (by first | assumption | decide) hB hN) (Nat.le_of_ble_eq_true rfl) ?_
  refine Go_ifeq_d d_W_possible_6 (fun h6 => ?_) (fun h6 => ?_)
  · refine Go_const d_W_possible_11 ?_
    refine Go_istore d_W_possible_12 rfl sa3 ?_
    refine Go_const d_W_possible_13 ?_
    refine Go_istore d_W_possible_14 rfl sa4 ?_
    exact loop 0 (by omega) (by omega) (fun q => h6 ⟨ho, q⟩) 0 rfl
  · refine Go_const d_W_possible_9 ?_
    exact Go_iretV d_W_possible_10 (by rw [if_pos h6.2])
  · intro hn9 n hn
    refine Go_iload d_W_possible_16 lg4 ?_
    refine Go_aload d_W_possible_18 lg0 ⟨_, rfl⟩ ?_
    refine Go_get d_W_possible_19 (fb_2 (by first | assumption | decide | omega)) ?_
    refine Go_icmp_ge d_W_possible_22 (by omega) (by omega) (fun h22 => ?_) (fun h22 => absurd h22 (by omega))
    refine Go_iload d_W_possible_46 lg3 ?_
    exact Go_iretV d_W_possible_47 (by rw [if_neg hn9]; exact hn)
  · intro i h0 h1 ih hn9 n hn
    have hwn := wtV_nn hW i r
    have hwl := wtV_le hW (i := i) (r := r) (hW.2.2.1 i h0 h1).2.2.1.1 (by omega)
    have hS := cP_S (fun i => 0 < wtV N i r) h0
    try dsimp only at hS
    refine Go_iload d_W_possible_16 lg4 ?_
    refine Go_aload d_W_possible_18 lg0 ⟨_, rfl⟩ ?_
    refine Go_get d_W_possible_19 (fb_2 (by first | assumption | decide | omega)) ?_
    refine Go_icmp_ge d_W_possible_22 (by omega) (by omega) (fun h22 => absurd h22 (by omega)) (fun h22 => ?_)
    refine Go_aload d_W_possible_25 lg0 ⟨_, rfl⟩ ?_
    refine Go_iload d_W_possible_26 lg4 ?_
    refine Go_iload d_W_possible_28 lg1 ?_
    refine Go_S3p d_W_possible_29 (c_W_weight _ _ (by omega) (by omega) (by first | assumption | decide) hB hW) (Nat.le_of_ble_eq_true rfl) ?_
    refine Go_lconst d_W_possible_32 ?_
    refine Go_lcmp d_W_possible_33 (by omega) (by omega) ?_
    refine Go_ifc_le d_W_possible_34 (fun h34 => ?_) (fun h34 => ?_)
    · refine Go_iinc d_W_possible_40 lg4 rfl sa4 ?_
      refine Go_goto d_W_possible_43 ?_
      refine ih hn9 _ ?_
      rw [hS, hn]
      first
        | rw [← bC1 h34]
        | rw [← bC0 (by omega), Int.add_zero]
    · refine Go_iinc d_W_possible_37 lg3 rfl sa3 ?_
      refine Go_iinc d_W_possible_40 lg4 rfl sa4 ?_
      refine Go_goto d_W_possible_43 ?_
      refine ih hn9 _ ?_
      rw [hS, hn]
      first
        | rw [← bC1 h34]
        | rw [← bC0 (by omega), Int.add_zero]
/-- the class's likeliest: (which, how much) -/
noncomputable def bst (N : Row) (g r : Int) : Nat → Int × Int
  | 0 => (g, 0)
  | n + 1 => if (bst N g r n).2 < wtV N (n : Int) r then ((n : Int), wtV N (n : Int) r) else bst N g r n
theorem bst_S (N : Row) (g r i : Int) (h : 0 ≤ i) : bst N g r (i + 1).toNat = if (bst N g r i.toNat).2 < wtV N i r then (i, wtV N i r) else bst N g r i.toNat := by
  rw [show (i + 1).toNat = i.toNat + 1 by omega]
  simp only [bst]
  rw [show ((i.toNat : Nat) : Int) = i by omega]
theorem bst_rg (hW : WF N) {g r : Int} (hr : r ≤ N 6) : ∀ n : Nat, (n : Int) ≤ N 5 → 0 ≤ (bst N g r n).2 ∧ (bst N g r n).2 ≤ 129746337890625 := by
  intro n
  induction n with
  | zero => intro _; simp [bst]
  | succ n ih =>
    intro hn
    have h1 := ih (by omega)
    have h2 := wtV_nn hW (n : Int) r
    have h3 := wtV_le hW (i := (n : Int)) (r := r) (hW.2.2.1 (n : Int) (by omega) (by omega)).2.2.1.1 hr
    simp only [bst]
    split
    · exact ⟨h2, h3⟩
    · exact h1
theorem c_W_likeliest (r k : Int) (ho : ((0 ≤ r ∧ r < N 6) ∧ 0 ≤ k ∧ k < rof N r 1 (N 5).toNat)) (hc : 1 ≤ c ∧ c ≤ 14) (hB : BR (S c) N) (hW : WF N) : Fn G k_W_likeliest [oR G c, vI r, vI k] S (PV (vI (if lf N (lout N r k (N 5).toNat) 0 = 9 then lout N r k (N 5).toNat else (bst N (lout N r k (N 5).toNat) r (N 5).toNat).1)) S) := by
  have hN := hW.1
  obtain ⟨a1, ⟨a2, a3, a4, a5⟩, a6, a7, a8, a9⟩ := id hB
  obtain ⟨hr, i0, i1, i2, i3, i4, i5, i6⟩ := id hN
  have hro := rof_0 N r 1 (N 5).toNat
  refine Fn.of [some (oR G c), some (vI r), some (vI k), none, none, none, none, none, none] 6 rfl (by decide +kernel) rfl (Nat.le_of_ble_eq_true rfl) (by decide) ?_

  have loop := loopI (fun i => lf N (lout N r k (N 5).toNat) 0 ≠ 9 → ∀ b m : Int, (b, m) = bst N (lout N r k (N 5).toNat) r i.toNat → Go G k_W_likeliest 24 [some (oR G c), some (vI r), some (vI k), some (vI b), some (vL m), none, some (vI i), none, none] [] S (PV (vI (if lf N (lout N r k (N 5).toNat) 0 = 9 then lout N r k (N 5).toNat else (bst N (lout N r k (N 5).toNat) r (N 5).toNat).1)) S)) (N 5) ?_ ?_
  refine Go_aload d_W_likeliest_0 lg0 ⟨_, rfl⟩ ?_
  refine Go_iload d_W_likeliest_1 lg1 ?_
  refine Go_iload d_W_likeliest_2 lg2 ?_
  refine Go_V2p d_W_likeliest_3 (kB (by first | assumption | decide | omega)) (c_B_outLetter _ _ (by omega) (by omega) (by first | assumption | decide) hB hN) (Nat.le_of_ble_eq_true rfl) ?_
  rw [if_pos ho]
  refine Go_istore d_W_likeliest_6 rfl sa3 ?_
  refine Go_aload d_W_likeliest_7 lg0 ⟨_, rfl⟩ ?_
  refine Go_iload d_W_likeliest_8 lg1 ?_
  refine Go_iload d_W_likeliest_9 lg2 ?_
  refine Go_V2p d_W_likeliest_10 (kB (by first | assumption | decide | omega)) (c_B_isOwnOut _ _ (by omega) (by omega) (by first | assumption | decide) hB hN) (Nat.le_of_ble_eq_true rfl) ?_
  refine Go_ifeq_d d_W_likeliest_13 (fun h13 => ?_) (fun h13 => ?_)
  · refine Go_lconst d_W_likeliest_18 ?_
    refine Go_lstore d_W_likeliest_19 rfl sb4 ?_
    refine Go_const d_W_likeliest_21 ?_
    refine Go_istore d_W_likeliest_22 rfl sa6 ?_
    exact loop 0 (by omega) (by omega) (fun q => h13 ⟨ho, q⟩) _ _ rfl
  · refine Go_iload d_W_likeliest_16 lg3 ?_
    exact Go_iretV d_W_likeliest_17 (by rw [if_pos h13.2])
  · intro hn9 b m hm
    refine Go_iload d_W_likeliest_24 lg6 ?_
    refine Go_aload d_W_likeliest_26 lg0 ⟨_, rfl⟩ ?_
    refine Go_get d_W_likeliest_27 (fb_2 (by first | assumption | decide | omega)) ?_
    refine Go_icmp_ge d_W_likeliest_30 (by omega) (by omega) (fun h30 => ?_) (fun h30 => absurd h30 (by omega))
    refine Go_iload d_W_likeliest_63 lg3 ?_
    exact Go_iretV d_W_likeliest_64 (by rw [if_neg hn9, ← hm])
  · intro i h0 h1 ih hn9 b m hm
    have hwn := wtV_nn hW i r
    have hwl := wtV_le hW (i := i) (r := r) (hW.2.2.1 i h0 h1).2.2.1.1 (by omega)
    have hbr := bst_rg hW (g := lout N r k (N 5).toNat) (r := r) (by omega) i.toNat (by omega)
    rw [← hm] at hbr
    dsimp only at hbr
    have hS := bst_S N (lout N r k (N 5).toNat) r i h0
    rw [← hm] at hS
    dsimp only at hS
    refine Go_iload d_W_likeliest_24 lg6 ?_
    refine Go_aload d_W_likeliest_26 lg0 ⟨_, rfl⟩ ?_
    refine Go_get d_W_likeliest_27 (fb_2 (by first | assumption | decide | omega)) ?_
    refine Go_icmp_ge d_W_likeliest_30 (by omega) (by omega) (fun h30 => absurd h30 (by omega)) (fun h30 => ?_)
    refine Go_aload d_W_likeliest_33 lg0 ⟨_, rfl⟩ ?_
    refine Go_iload d_W_likeliest_34 lg6 ?_
    refine Go_iload d_W_likeliest_36 lg1 ?_
    refine Go_S3p d_W_likeliest_37 (c_W_weight _ _ (by omega) (by omega) (by first | assumption | decide) hB hW) (Nat.le_of_ble_eq_true rfl) ?_
    refine Go_lstore d_W_likeliest_40 rfl sb7 ?_
    refine Go_lload d_W_likeliest_42 lg7 ?_
    refine Go_lload d_W_likeliest_44 lg4 ?_
    refine Go_lcmp d_W_likeliest_46 (by omega) (by omega) ?_
    refine Go_ifc_le d_W_likeliest_47 (fun h47 => ?_) (fun h47 => ?_)
    · refine Go_iinc d_W_likeliest_57 lg6 rfl sa6 ?_
      refine Go_goto d_W_likeliest_60 ?_
      refine fg7 (ih hn9 _ _ ?_)
      rw [hS]
      first
        | rw [if_pos (by omega)]
        | rw [if_neg (by omega)]
    · refine Go_lload d_W_likeliest_50 lg7 ?_
      refine Go_lstore d_W_likeliest_52 rfl sb4 ?_
      refine Go_iload d_W_likeliest_54 lg6 ?_
      refine Go_istore d_W_likeliest_56 rfl sa3 ?_
      refine Go_iinc d_W_likeliest_57 lg6 rfl sa6 ?_
      refine Go_goto d_W_likeliest_60 ?_
      refine fg7 (ih hn9 _ _ ?_)
      rw [hS]
      first
        | rw [if_pos (by omega)]
        | rw [if_neg (by omega)]
theorem two_mod {a b : Int} (hb : 0 < b) (hab : b < a) : 2 * (a % b) < a := by
  have h1 := Int.emod_lt_of_pos a hb
  have h2 := Int.emod_nonneg a (show b ≠ 0 by omega)
  by_cases h : 2 * b ≤ a
  · omega
  · have h3 : a % b = a - b := by
      have h4 := Int.emod_add_mul_ediv a b
      have h5 : a / b = 1 := by
        have g1 : 1 ≤ a / b := (Int.le_ediv_iff_mul_le hb).mpr (by omega)
        have g2 : a / b < 2 := (Int.ediv_lt_iff_lt_mul hb).mpr (by omega)
        omega
      rw [h5] at h4
      omega
    omega
theorem c_X_greatestDivisor (a b : Int) (ha : 0 < a ∧ a < 9223372036854775808) (hb : 0 < b ∧ b < 140737488355328) : Fn G k_X_greatestDivisor [vL a, vL b] S (PV (vL ((Int.gcd a b : Nat) : Int)) S) := by
  refine Fn.of [some (vL a), none, some (vL b), none, none, none, none, none, none, none, none] 7 rfl (by decide +kernel) rfl (Nat.le_of_ble_eq_true rfl) (by decide) ?_

  have done : ∀ (s x : Int), 0 ≤ s → s ≤ 100 → 0 ≤ x → Int.gcd x 0 = Int.gcd a b → Go G k_X_greatestDivisor 9 [some (vL a), none, some (vL b), none, some (vL x), none, some (vL 0), none, some (vI s), none, none] [] S (PV (vL ((Int.gcd a b : Nat) : Int)) S) := by
    intro s x h0 h1 hx hg
    have e : x = ((Int.gcd a b : Nat) : Int) := by rw [← hg, Int.gcd_zero_right]; omega
    refine Go_iload d_X_greatestDivisor_9 lg8 ?_
    refine Go_const d_X_greatestDivisor_11 ?_
    refine Go_icmp_ge d_X_greatestDivisor_13 (by omega) (by omega) (fun h13 => ?_) (fun h13 => ?_)
    · refine Go_lload d_X_greatestDivisor_44 lg4 ?_
      exact Go_lretV d_X_greatestDivisor_46 e
    · refine Go_lload d_X_greatestDivisor_16 lg6 ?_
      refine Go_lconst d_X_greatestDivisor_18 ?_
      refine Go_lcmp d_X_greatestDivisor_19 (by omega) (by omega) ?_
      refine Go_ifc_eq d_X_greatestDivisor_20 (fun h20 => ?_) (fun h20 => absurd h20 (by omega))
      refine Go_lload d_X_greatestDivisor_44 lg4 ?_
      exact Go_lretV d_X_greatestDivisor_46 e
  have loop : ∀ (k : Nat) (s x y : Int), 0 ≤ s → s + 2 * k ≤ 99 → (0 ≤ x ∧ x < 9223372036854775808) → 0 ≤ y → y < ((2 ^ k : Nat) : Int) → y < 9223372036854775808 → Int.gcd x y = Int.gcd a b → Go G k_X_greatestDivisor 9 [some (vL a), none, some (vL b), none, some (vL x), none, some (vL y), none, some (vI s), none, none] [] S (PV (vL ((Int.gcd a b : Nat) : Int)) S) := by
    intro k
    induction k with
    | zero =>
      intro s x y h0 h1 hx hy hyk hyb hg
      have : y = 0 := by simp at hyk; omega
      subst this
      exact done s x h0 (by omega) hx.1 hg
    | succ k ih =>
      intro s x y h0 h1 hx hy hyk hyb hg
      by_cases hz : y = 0
      · subst hz
        exact done s x h0 (by omega) hx.1 hg
      · have q1 := Int.emod_lt_of_pos x (show 0 < y by omega)
        have q2 := Int.emod_nonneg x (show y ≠ 0 by omega)
        have hg1 := gcd_st (x := x) (y := y) hx.1 (by omega)
        have step1 : Go G k_X_greatestDivisor 9 [some (vL a), none, some (vL b), none, some (vL y), none, some (vL (x % y)), none, some (vI (s + 1)), none, none] [] S (PV (vL ((Int.gcd a b : Nat) : Int)) S) := by
          by_cases hz2 : x % y = 0
          · rw [hz2] at hg1 ⊢
            exact done (s + 1) y (by omega) (by omega) hy (by rw [hg1, hg])
          · generalize hxy : x % y = y1 at *
            have q3 := Int.emod_nonneg y (show y1 ≠ 0 by omega)
            have q4 := two_mod (a := y) (b := y1) (by omega) q1
            have q5 := Int.emod_lt_of_pos y (show 0 < y1 by omega)
            have hg2 := gcd_st (x := y) (y := y1) hy (by omega)
            refine Go_iload d_X_greatestDivisor_9 lg8 ?_
            refine Go_const d_X_greatestDivisor_11 ?_
            refine Go_icmp_ge d_X_greatestDivisor_13 (by omega) (by omega) (fun h13 => absurd h13 (by omega)) (fun h13 => ?_)
            refine Go_lload d_X_greatestDivisor_16 lg6 ?_
            refine Go_lconst d_X_greatestDivisor_18 ?_
            refine Go_lcmp d_X_greatestDivisor_19 (by omega) (by omega) ?_
            refine Go_ifc_eq d_X_greatestDivisor_20 (fun h20 => absurd h20 (by omega)) (fun h20 => ?_)
            refine Go_lload d_X_greatestDivisor_23 lg4 ?_
            refine Go_lload d_X_greatestDivisor_25 lg6 ?_
            refine Go_lrem d_X_greatestDivisor_27 (by omega) (by omega) ?_
            refine Go_lstore d_X_greatestDivisor_28 rfl sb9 ?_
            refine Go_lload d_X_greatestDivisor_30 lg6 ?_
            refine Go_lstore d_X_greatestDivisor_32 rfl sb4 ?_
            refine Go_lload d_X_greatestDivisor_34 lg9 ?_
            refine Go_lstore d_X_greatestDivisor_36 rfl sb6 ?_
            refine Go_iinc d_X_greatestDivisor_38 lg8 rfl sa8 ?_
            refine Go_goto d_X_greatestDivisor_41 ?_
            refine fg9 ?_
            have hp : ((2 ^ (k + 1) : Nat) : Int) = 2 * ((2 ^ k : Nat) : Int) := by rw [Nat.pow_succ]; omega
            have := ih (s + 1 + 1) y1 (y % y1) (by omega) (by omega) (by omega) q3 (by omega) (by omega) (by rw [hg2, hg1, hg])
            exact this
        refine Go_iload d_X_greatestDivisor_9 lg8 ?_
        refine Go_const d_X_greatestDivisor_11 ?_
        refine Go_icmp_ge d_X_greatestDivisor_13 (by omega) (by omega) (fun h13 => absurd h13 (by omega)) (fun h13 => ?_)
        refine Go_lload d_X_greatestDivisor_16 lg6 ?_
        refine Go_lconst d_X_greatestDivisor_18 ?_
        refine Go_lcmp d_X_greatestDivisor_19 (by omega) (by omega) ?_
        refine Go_ifc_eq d_X_greatestDivisor_20 (fun h20 => absurd h20 (by omega)) (fun h20 => ?_)
        refine Go_lload d_X_greatestDivisor_23 lg4 ?_
        refine Go_lload d_X_greatestDivisor_25 lg6 ?_
        refine Go_lrem d_X_greatestDivisor_27 (by omega) (by omega) ?_
        refine Go_lstore d_X_greatestDivisor_28 rfl sb9 ?_
        refine Go_lload d_X_greatestDivisor_30 lg6 ?_
        refine Go_lstore d_X_greatestDivisor_32 rfl sb4 ?_
        refine Go_lload d_X_greatestDivisor_34 lg9 ?_
        refine Go_lstore d_X_greatestDivisor_36 rfl sb6 ?_
        refine Go_iinc d_X_greatestDivisor_38 lg8 rfl sa8 ?_
        refine Go_goto d_X_greatestDivisor_41 ?_
        exact fg9 step1
  refine Go_lload d_X_greatestDivisor_0 lg0 ?_
  refine Go_lstore d_X_greatestDivisor_1 rfl sb4 ?_
  refine Go_lload d_X_greatestDivisor_3 lg2 ?_
  refine Go_lstore d_X_greatestDivisor_4 rfl sb6 ?_
  refine Go_const d_X_greatestDivisor_6 ?_
  refine Go_istore d_X_greatestDivisor_7 rfl sa8 ?_
  exact loop 47 0 a b (by omega) (by omega) (by omega) (by omega) (by simp; omega) (by omega) rfl
theorem frV_0 {b v : Int} (hb : 0 < b) (hv : v = 0 ∨ v = 1) : frV 0 b v = if v = 0 then 0 else 1 := by
  unfold frV
  rw [Int.gcd_zero_left]
  rcases hv with rfl | rfl
  · rw [if_pos rfl, if_pos rfl, Int.zero_ediv]
  · rw [if_neg (by decide), if_neg (by decide), show ((b.natAbs : Nat) : Int) = b by omega, Int.ediv_self (by omega)]
theorem c_X_lowest (a b v : Int) (ha : 0 ≤ a ∧ a < 9223372036854775808) (hb : 0 < b ∧ b < 140737488355328) (hv : v = 0 ∨ v = 1) : Fn G k_X_lowest [vL a, vL b, vI v] S (PV (vL (frV a b v)) S) := by
  have hgp : 0 < a → 0 < ((Int.gcd a b : Nat) : Int) := by
    intro _
    have : Int.gcd a b ≠ 0 := fun h => by rw [Int.gcd_eq_zero_iff] at h; omega
    omega
  have hgl : ((Int.gcd a b : Nat) : Int) ≤ b := by
    have := Int.gcd_dvd_right a b
    exact Int.le_of_dvd hb.1 this
  refine Fn.of [some (vL a), none, some (vL b), none, some (vI v), none, none, none, none] 4 rfl (by decide +kernel) rfl (Nat.le_of_ble_eq_true rfl) (by decide) ?_
  refine Go_lload d_X_lowest_0 lg0 ?_
  refine Go_lconst d_X_lowest_1 ?_
  refine Go_lcmp d_X_lowest_2 (by omega) (by omega) ?_
  refine Go_ifc_le d_X_lowest_3 (fun h3 => ?_) (fun h3 => ?_)
  · refine Go_iload d_X_lowest_12 lg4 ?_
    refine Go_if_ne d_X_lowest_14 (by omega) (fun h14 => ?_) (fun h14 => ?_)
    · refine Go_lconst d_X_lowest_21 ?_
      first
        | exact Go_lretV d_X_lowest_22 (by rw [show a = 0 by omega, frV_0 hb.1 hv]; first | rw [if_pos (by assumption)] | rw [if_neg (by assumption)])
        | (exfalso; omega)
    · refine Go_lconst d_X_lowest_17 ?_
      refine Go_goto d_X_lowest_18 ?_
      first
        | exact Go_lretV d_X_lowest_22 (by rw [show a = 0 by omega, frV_0 hb.1 hv]; first | rw [if_pos (by assumption)] | rw [if_neg (by assumption)])
        | (exfalso; omega)
  · refine Go_lload d_X_lowest_6 lg2 ?_
    refine Go_lconst d_X_lowest_7 ?_
    refine Go_lcmp d_X_lowest_8 (by omega) (by omega) ?_
    refine Go_ifc_gt d_X_lowest_9 (fun h9 => ?_) (fun h9 => ?_)
    · refine Go_lload d_X_lowest_23 lg0 ?_
      refine Go_lload d_X_lowest_24 lg2 ?_
      refine Go_S2p d_X_lowest_25 (c_X_greatestDivisor _ _ (by omega) (by omega)) (Nat.le_of_ble_eq_true rfl) ?_
      refine Go_lstore d_X_lowest_28 rfl sb5 ?_
      refine Go_iload d_X_lowest_30 lg4 ?_
      refine Go_if_ne d_X_lowest_32 (by omega) (fun h32 => ?_) (fun h32 => ?_)
      · refine Go_lload d_X_lowest_39 lg2 ?_
        refine Go_lstore d_X_lowest_40 rfl sb7 ?_
        refine Go_lload d_X_lowest_42 lg5 ?_
        refine Go_lconst d_X_lowest_44 ?_
        refine Go_lcmp d_X_lowest_45 (by omega) (by omega) ?_
        refine Go_ifc_le d_X_lowest_46 (fun h46 => ?_) (fun h46 => ?_)
        · refine Go_lload d_X_lowest_57 lg7 ?_
          first
            | (exfalso; have := hgp (by omega); omega)
            | exact Go_lretV d_X_lowest_59 (by unfold frV; first | rw [if_pos (by assumption)] | rw [if_neg (by assumption)])
        · refine Go_lload d_X_lowest_49 lg7 ?_
          refine Go_lload d_X_lowest_51 lg5 ?_
          refine Go_ldiv d_X_lowest_53 (by omega) (by have := hgp (by omega); omega) ?_
          refine Go_goto d_X_lowest_54 ?_
          first
            | (exfalso; have := hgp (by omega); omega)
            | exact Go_lretV d_X_lowest_59 (by unfold frV; first | rw [if_pos (by assumption)] | rw [if_neg (by assumption)])
      · refine Go_lload d_X_lowest_35 lg0 ?_
        refine Go_goto d_X_lowest_36 ?_
        refine Go_lstore d_X_lowest_40 rfl sb7 ?_
        refine Go_lload d_X_lowest_42 lg5 ?_
        refine Go_lconst d_X_lowest_44 ?_
        refine Go_lcmp d_X_lowest_45 (by omega) (by omega) ?_
        refine Go_ifc_le d_X_lowest_46 (fun h46 => ?_) (fun h46 => ?_)
        · refine Go_lload d_X_lowest_57 lg7 ?_
          first
            | (exfalso; have := hgp (by omega); omega)
            | exact Go_lretV d_X_lowest_59 (by unfold frV; first | rw [if_pos (by assumption)] | rw [if_neg (by assumption)])
        · refine Go_lload d_X_lowest_49 lg7 ?_
          refine Go_lload d_X_lowest_51 lg5 ?_
          refine Go_ldiv d_X_lowest_53 (by omega) (by have := hgp (by omega); omega) ?_
          refine Go_goto d_X_lowest_54 ?_
          first
            | (exfalso; have := hgp (by omega); omega)
            | exact Go_lretV d_X_lowest_59 (by unfold frV; first | rw [if_pos (by assumption)] | rw [if_neg (by assumption)])
    · refine Go_iload d_X_lowest_12 lg4 ?_
      refine Go_if_ne d_X_lowest_14 (by omega) (fun h14 => ?_) (fun h14 => ?_)
      · refine Go_lconst d_X_lowest_21 ?_
        first
          | exact Go_lretV d_X_lowest_22 (by rw [show a = 0 by omega, frV_0 hb.1 hv]; first | rw [if_pos (by assumption)] | rw [if_neg (by assumption)])
          | (exfalso; omega)
      · refine Go_lconst d_X_lowest_17 ?_
        refine Go_goto d_X_lowest_18 ?_
        first
          | exact Go_lretV d_X_lowest_22 (by rw [show a = 0 by omega, frV_0 hb.1 hv]; first | rw [if_pos (by assumption)] | rw [if_neg (by assumption)])
          | (exfalso; omega)
end Watch
