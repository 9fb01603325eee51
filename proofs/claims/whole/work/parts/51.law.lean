/-! ===== the law's loop ===== -/
section LawR
variable {G : GT} {q : MKT} {pc n t : Nat} {lv : List (Option Value)} {st : List Value} {S : St} {Post : Option Value → St → Prop}
theorem vI_of (x : Int32) : vI x.toInt = Value.int x := by show Value.int (iI x.toInt) = _; rw [iI_of]
theorem vL_of (x : Int64) : vL x.toInt = Value.long x := by show Value.long (lI x.toInt) = _; rw [lI_of]
theorem Go_icmp_same {a : Int} (d : Db q pc (.if_icmp .eq) n t) (kt : Go G q t lv st S Post) : Go G q pc lv (vI a :: vI a :: st) S Post := by
  rw [show vI a = vI (iI a).toInt from (vI_of (iI a)).symm]
  exact Go_icmp_eq d (i32_rg _) (i32_rg _) (fun _ => kt) (fun h => absurd rfl h)
theorem Go_lcmp_same {a : Int} (d : Dk q pc .lcmp 1 n) (k : Go G q n lv (vI 0 :: st) S Post) : Go G q pc lv (vL a :: vL a :: st) S Post := by
  rw [show vL a = vL (lI a).toInt from (vL_of (lI a)).symm]
  refine Go_lcmp d (i64_rg _) (i64_rg _) ?_
  rw [show cmpI (lI a).toInt (lI a).toInt = 0 by unfold cmpI; rw [if_neg (by omega)]; split <;> omega]
  exact k
theorem Go_lshl {a b : Int} (d : Dk q pc .lshl 1 n) (k : Go G q n lv (vL ((lI a <<< ((iI b).toInt64 &&& 63)).toInt) :: st) S Post) : Go G q pc lv (vI b :: vL a :: st) S Post := by
  intro p e R s m args below meth c cells slots Q H locs ls X hc hs K hl hP hS
  obtain ⟨d, rfl⟩ := d
  refine lv_lshl X.1 X.2.1 d rfl ?_
  rw [← vL_of]
  exact k p e R s m args below meth c cells slots Q H locs ls X hc hs K hl hP hS
theorem Go_land {a b : Int} (d : Dk q pc .land 1 n) (k : Go G q n lv (vL ((lI a &&& lI b).toInt) :: st) S Post) : Go G q pc lv (vL b :: vL a :: st) S Post := by
  intro p e R s m args below meth c cells slots Q H locs ls X hc hs K hl hP hS
  obtain ⟨d, rfl⟩ := d
  refine lv_land X.1 X.2.1 d ?_
  rw [← vL_of]
  exact k p e R s m args below meth c cells slots Q H locs ls X hc hs K hl hP hS
theorem Go_lor {a b : Int} (d : Dk q pc .lor 1 n) (k : Go G q n lv (vL ((lI a ||| lI b).toInt) :: st) S Post) : Go G q pc lv (vL b :: vL a :: st) S Post := by
  intro p e R s m args below meth c cells slots Q H locs ls X hc hs K hl hP hS
  obtain ⟨d, rfl⟩ := d
  refine lv_lor X.1 X.2.1 d ?_
  rw [← vL_of]
  exact k p e R s m args below meth c cells slots Q H locs ls X hc hs K hl hP hS
end LawR
theorem LR_film {N IT : Row} (hr : ∀ k, -2147483648 ≤ N k ∧ N k < 2147483648) (hI : LR IT) (f : Nat → Int) (off n : Nat) : LR (cpR IT (fun k => lf N (f k) 1) off n) := by
  intro k
  unfold cpR
  split
  · have := hr (7 + 5 * f (k - off) + 1).toNat
    unfold lf; dsimp only; omega
  · exact hI k
abbrev scV (G : GT) : Value := .ref G.2.2.2.2.2.2.1
def PT : Option Value → St → Prop := fun r _ => r = some (vI 1)
def LvL (G : GT) (i : Int) : List (Option Value) := [some (scV G), some (oR G 0), some (oR G 22), some (vI i)]
section Law
variable {G : GT} {S : St} {i : Int}
theorem law_come (hL : G.2.2.2.2.2.2.2.1 ≤ 3072) (hi : 0 ≤ i ∧ i + 6 ≤ (G.2.2.2.2.2.2.2.1 : Int)) (hI : INV S) (K : ∀ S2, INV S2 → Go G k_L_law 1041 (LvL G i) [] S2 PT) : Go G k_L_law 156 (LvL G i) [] S PT := by
  have hC := hI.1
  have hB := hC.1
  have hW := hC.2.1
  have hN := hW.1
  have hr := hN.1
  have h5 := hN.2.2.2.2.2.2.1
  have h6 := hN.2.2.2.2.2.2.2
  have hu := hI.u
  have hSh := hI.2.2.2.2.1
  have hSk := hI.2.2.2.2.2
  have hT : TOk (S 17 0) (S 17 1 0) := by have := hI.2.2.2.1; rw [this.1, this.2.1]; exact this.2.2
  have hlo : ∀ r k : Int, (0 ≤ r ∧ r < S 22 0 6) → 0 ≤ k → k < rof (S 22 0) r 1 (S 22 0 5).toNat → 0 ≤ lout (S 22 0) r k (S 22 0 5).toNat ∧ lout (S 22 0) r k (S 22 0 5).toNat < S 22 0 5 := by
    intro r k a b d
    have h1 := (hB.2.2.2.2.2 r k a.1 a.2 b d).2.1
    have h2 := lout_rg (S 22 0) r k (S 22 0 5).toNat
    omega
  unfold LvL

  refine Go_aload d_L_law_156 lg1 ⟨_, rfl⟩ ?_
  refine Go_aload d_L_law_157 lg0 ⟨_, rfl⟩ ?_
  refine Go_iload d_L_law_158 lg3 ?_
  refine Go_const d_L_law_159 ?_
  refine Go_iadd d_L_law_160 ?_
  refine Go_sld rfl d_L_law_161 hL (by omega) ?_
  refine Go_aload d_L_law_162 lg0 ⟨_, rfl⟩ ?_
  refine Go_iload d_L_law_163 lg3 ?_
  refine Go_const d_L_law_164 ?_
  refine Go_iadd d_L_law_165 ?_
  refine Go_sld rfl d_L_law_166 hL (by omega) ?_
  refine Go_V2i d_L_law_167 kX (c_X_come _ _ (i32_rg _) (i32_rg _) hC) (Nat.le_of_ble_eq_true rfl) ?_
  rintro z S1 q1
  have e22 : S1 22 = S 22 := by
    rcases q1 with ⟨-, -, rfl⟩ | ⟨-, -, -, rfl⟩ | ⟨-, -, N1, -, -, -, hF⟩
    · rfl
    · rfl
    · exact hF.e22
  refine Go_aload d_L_law_170 lg2 ⟨_, rfl⟩ ?_
  refine Go_aload d_L_law_171 lg0 ⟨_, rfl⟩ ?_
  refine Go_iload d_L_law_172 lg3 ?_
  refine Go_const d_L_law_173 ?_
  refine Go_iadd d_L_law_174 ?_
  refine Go_sld rfl d_L_law_175 hL (by omega) ?_
  refine Go_aload d_L_law_176 lg0 ⟨_, rfl⟩ ?_
  refine Go_iload d_L_law_177 lg3 ?_
  refine Go_const d_L_law_178 ?_
  refine Go_iadd d_L_law_179 ?_
  refine Go_sld rfl d_L_law_180 hL (by omega) ?_
  refine Go_V2i d_L_law_181 kM (c_M_come _ _ (i32_rg _) (i32_rg _) (by rw [e22]; exact hN) (by rw [e22]; exact hu)) (Nat.le_of_ble_eq_true rfl) ?_
  rintro z2 S2 q2
  obtain ⟨rfl, hJ⟩ := L_come hI q1 q2
  exact Go_icmp_same d_L_law_184 (K _ hJ)
theorem law_tick (hL : G.2.2.2.2.2.2.2.1 ≤ 3072) (hi : 0 ≤ i ∧ i + 6 ≤ (G.2.2.2.2.2.2.2.1 : Int)) (hI : INV S) (K : ∀ S2, INV S2 → Go G k_L_law 1041 (LvL G i) [] S2 PT) : Go G k_L_law 189 (LvL G i) [] S PT := by
  have hC := hI.1
  have hB := hC.1
  have hW := hC.2.1
  have hN := hW.1
  have hr := hN.1
  have h5 := hN.2.2.2.2.2.2.1
  have h6 := hN.2.2.2.2.2.2.2
  have hu := hI.u
  have hSh := hI.2.2.2.2.1
  have hSk := hI.2.2.2.2.2
  have hT : TOk (S 17 0) (S 17 1 0) := by have := hI.2.2.2.1; rw [this.1, this.2.1]; exact this.2.2
  have hlo : ∀ r k : Int, (0 ≤ r ∧ r < S 22 0 6) → 0 ≤ k → k < rof (S 22 0) r 1 (S 22 0 5).toNat → 0 ≤ lout (S 22 0) r k (S 22 0 5).toNat ∧ lout (S 22 0) r k (S 22 0 5).toNat < S 22 0 5 := by
    intro r k a b d
    have h1 := (hB.2.2.2.2.2 r k a.1 a.2 b d).2.1
    have h2 := lout_rg (S 22 0) r k (S 22 0 5).toNat
    omega
  unfold LvL

  refine Go_aload d_L_law_189 lg1 ⟨_, rfl⟩ ?_
  refine Go_V0i d_L_law_190 kX (c_X_tick  hC) (Nat.le_of_ble_eq_true rfl) ?_
  rintro z S1 q1
  have e22 : S1 22 = S 22 := by
    rcases q1 with ⟨-, -, rfl⟩ | ⟨-, N1, -, -, -, hF⟩
    · rfl
    · exact hF.e22
  refine Go_aload d_L_law_193 lg2 ⟨_, rfl⟩ ?_
  refine Go_V0i d_L_law_194 kM (c_M_tick  (by rw [e22]; exact hN) (by rw [e22]; exact hu)) (Nat.le_of_ble_eq_true rfl) ?_
  rintro z2 S2 q2
  obtain ⟨rfl, hJ⟩ := L_tick hI q1 q2
  exact Go_icmp_same d_L_law_197 (K _ hJ)
theorem law_tell (hL : G.2.2.2.2.2.2.2.1 ≤ 3072) (hi : 0 ≤ i ∧ i + 6 ≤ (G.2.2.2.2.2.2.2.1 : Int)) (hI : INV S) (K : ∀ S2, INV S2 → Go G k_L_law 1041 (LvL G i) [] S2 PT) : Go G k_L_law 202 (LvL G i) [] S PT := by
  have hC := hI.1
  have hB := hC.1
  have hW := hC.2.1
  have hN := hW.1
  have hr := hN.1
  have h5 := hN.2.2.2.2.2.2.1
  have h6 := hN.2.2.2.2.2.2.2
  have hu := hI.u
  have hSh := hI.2.2.2.2.1
  have hSk := hI.2.2.2.2.2
  have hT : TOk (S 17 0) (S 17 1 0) := by have := hI.2.2.2.1; rw [this.1, this.2.1]; exact this.2.2
  have hlo : ∀ r k : Int, (0 ≤ r ∧ r < S 22 0 6) → 0 ≤ k → k < rof (S 22 0) r 1 (S 22 0 5).toNat → 0 ≤ lout (S 22 0) r k (S 22 0 5).toNat ∧ lout (S 22 0) r k (S 22 0 5).toNat < S 22 0 5 := by
    intro r k a b d
    have h1 := (hB.2.2.2.2.2 r k a.1 a.2 b d).2.1
    have h2 := lout_rg (S 22 0) r k (S 22 0 5).toNat
    omega
  unfold LvL

  refine Go_aload d_L_law_202 lg1 ⟨_, rfl⟩ ?_
  refine Go_aload d_L_law_203 lg0 ⟨_, rfl⟩ ?_
  refine Go_iload d_L_law_204 lg3 ?_
  refine Go_const d_L_law_205 ?_
  refine Go_iadd d_L_law_206 ?_
  refine Go_sld rfl d_L_law_207 hL (by omega) ?_
  refine Go_aload d_L_law_208 lg0 ⟨_, rfl⟩ ?_
  refine Go_iload d_L_law_209 lg3 ?_
  refine Go_const d_L_law_210 ?_
  refine Go_iadd d_L_law_211 ?_
  refine Go_sld rfl d_L_law_212 hL (by omega) ?_
  refine Go_V2i d_L_law_213 kX (c_X_tell _ _ (i32_rg _) (i32_rg _) hC) (Nat.le_of_ble_eq_true rfl) ?_
  rintro z S1 q1
  have e22 : S1 22 = S 22 := by
    rcases q1 with ⟨-, -, rfl⟩ | ⟨-, -, -, rfl⟩ | ⟨-, -, -, -, -, hF⟩
    · rfl
    · rfl
    · exact hF.e22
  refine Go_aload d_L_law_216 lg2 ⟨_, rfl⟩ ?_
  refine Go_aload d_L_law_217 lg0 ⟨_, rfl⟩ ?_
  refine Go_iload d_L_law_218 lg3 ?_
  refine Go_const d_L_law_219 ?_
  refine Go_iadd d_L_law_220 ?_
  refine Go_sld rfl d_L_law_221 hL (by omega) ?_
  refine Go_aload d_L_law_222 lg0 ⟨_, rfl⟩ ?_
  refine Go_iload d_L_law_223 lg3 ?_
  refine Go_const d_L_law_224 ?_
  refine Go_iadd d_L_law_225 ?_
  refine Go_sld rfl d_L_law_226 hL (by omega) ?_
  refine Go_V2i d_L_law_227 kM (c_M_tell _ _ (i32_rg _) (i32_rg _) (by rw [e22]; exact hr) (by rw [e22]; exact hu)) (Nat.le_of_ble_eq_true rfl) ?_
  rintro z2 S2 q2
  obtain ⟨rfl, hJ⟩ := L_tell hI q1 q2
  exact Go_icmp_same d_L_law_230 (K _ hJ)
theorem law_begin (hL : G.2.2.2.2.2.2.2.1 ≤ 3072) (hi : 0 ≤ i ∧ i + 6 ≤ (G.2.2.2.2.2.2.2.1 : Int)) (hI : INV S) (K : ∀ S2, INV S2 → Go G k_L_law 1041 (LvL G i) [] S2 PT) : Go G k_L_law 235 (LvL G i) [] S PT := by
  have hC := hI.1
  have hB := hC.1
  have hW := hC.2.1
  have hN := hW.1
  have hr := hN.1
  have h5 := hN.2.2.2.2.2.2.1
  have h6 := hN.2.2.2.2.2.2.2
  have hu := hI.u
  have hSh := hI.2.2.2.2.1
  have hSk := hI.2.2.2.2.2
  have hT : TOk (S 17 0) (S 17 1 0) := by have := hI.2.2.2.1; rw [this.1, this.2.1]; exact this.2.2
  have hlo : ∀ r k : Int, (0 ≤ r ∧ r < S 22 0 6) → 0 ≤ k → k < rof (S 22 0) r 1 (S 22 0 5).toNat → 0 ≤ lout (S 22 0) r k (S 22 0 5).toNat ∧ lout (S 22 0) r k (S 22 0 5).toNat < S 22 0 5 := by
    intro r k a b d
    have h1 := (hB.2.2.2.2.2 r k a.1 a.2 b d).2.1
    have h2 := lout_rg (S 22 0) r k (S 22 0 5).toNat
    omega
  unfold LvL

  refine Go_aload d_L_law_235 lg1 ⟨_, rfl⟩ ?_
  refine Go_V0i d_L_law_236 kX (c_X_begin  hC) (Nat.le_of_ble_eq_true rfl) ?_
  rintro z S1 q1
  have e22 : S1 22 = S 22 := by
    rcases q1 with ⟨-, -, rfl⟩ | ⟨-, -, -, -, hF⟩
    · rfl
    · exact hF.e22
  refine Go_aload d_L_law_239 lg2 ⟨_, rfl⟩ ?_
  refine Go_V0i d_L_law_240 kM (c_M_begin  (by rw [e22]; exact h5) (by rw [e22]; exact hu)) (Nat.le_of_ble_eq_true rfl) ?_
  rintro z2 S2 q2
  obtain ⟨rfl, hJ⟩ := L_begin hI q1 q2
  exact Go_icmp_same d_L_law_243 (K _ hJ)
theorem law_letter (hL : G.2.2.2.2.2.2.2.1 ≤ 3072) (hi : 0 ≤ i ∧ i + 6 ≤ (G.2.2.2.2.2.2.2.1 : Int)) (hI : INV S) (K : ∀ S2, INV S2 → Go G k_L_law 1041 (LvL G i) [] S2 PT) : Go G k_L_law 248 (LvL G i) [] S PT := by
  have hC := hI.1
  have hB := hC.1
  have hW := hC.2.1
  have hN := hW.1
  have hr := hN.1
  have h5 := hN.2.2.2.2.2.2.1
  have h6 := hN.2.2.2.2.2.2.2
  have hu := hI.u
  have hSh := hI.2.2.2.2.1
  have hSk := hI.2.2.2.2.2
  have hT : TOk (S 17 0) (S 17 1 0) := by have := hI.2.2.2.1; rw [this.1, this.2.1]; exact this.2.2
  have hlo : ∀ r k : Int, (0 ≤ r ∧ r < S 22 0 6) → 0 ≤ k → k < rof (S 22 0) r 1 (S 22 0 5).toNat → 0 ≤ lout (S 22 0) r k (S 22 0 5).toNat ∧ lout (S 22 0) r k (S 22 0 5).toNat < S 22 0 5 := by
    intro r k a b d
    have h1 := (hB.2.2.2.2.2 r k a.1 a.2 b d).2.1
    have h2 := lout_rg (S 22 0) r k (S 22 0 5).toNat
    omega
  unfold LvL

  refine Go_aload d_L_law_248 lg1 ⟨_, rfl⟩ ?_
  refine Go_aload d_L_law_249 lg0 ⟨_, rfl⟩ ?_
  refine Go_iload d_L_law_250 lg3 ?_
  refine Go_const d_L_law_251 ?_
  refine Go_iadd d_L_law_252 ?_
  refine Go_sld rfl d_L_law_253 hL (by omega) ?_
  refine Go_aload d_L_law_254 lg0 ⟨_, rfl⟩ ?_
  refine Go_iload d_L_law_255 lg3 ?_
  refine Go_const d_L_law_256 ?_
  refine Go_iadd d_L_law_257 ?_
  refine Go_sld rfl d_L_law_258 hL (by omega) ?_
  refine Go_V2p d_L_law_259 kX (c_X_letter _ _ (i32_rg _) (i32_rg _) hB hW) (Nat.le_of_ble_eq_true rfl) ?_
  refine Go_aload d_L_law_262 lg2 ⟨_, rfl⟩ ?_
  refine Go_aload d_L_law_263 lg0 ⟨_, rfl⟩ ?_
  refine Go_iload d_L_law_264 lg3 ?_
  refine Go_const d_L_law_265 ?_
  refine Go_iadd d_L_law_266 ?_
  refine Go_sld rfl d_L_law_267 hL (by omega) ?_
  refine Go_aload d_L_law_268 lg0 ⟨_, rfl⟩ ?_
  refine Go_iload d_L_law_269 lg3 ?_
  refine Go_const d_L_law_270 ?_
  refine Go_iadd d_L_law_271 ?_
  refine Go_sld rfl d_L_law_272 hL (by omega) ?_
  refine Go_V2p d_L_law_273 kM (c_M_letter _ _ (i32_rg _) (i32_rg _) h5) (Nat.le_of_ble_eq_true rfl) ?_
  exact Go_icmp_same d_L_law_276 (K _ hI)
theorem law_inside (hL : G.2.2.2.2.2.2.2.1 ≤ 3072) (hi : 0 ≤ i ∧ i + 6 ≤ (G.2.2.2.2.2.2.2.1 : Int)) (hI : INV S) (K : ∀ S2, INV S2 → Go G k_L_law 1041 (LvL G i) [] S2 PT) : Go G k_L_law 281 (LvL G i) [] S PT := by
  have hC := hI.1
  have hB := hC.1
  have hW := hC.2.1
  have hN := hW.1
  have hr := hN.1
  have h5 := hN.2.2.2.2.2.2.1
  have h6 := hN.2.2.2.2.2.2.2
  have hu := hI.u
  have hSh := hI.2.2.2.2.1
  have hSk := hI.2.2.2.2.2
  have hT : TOk (S 17 0) (S 17 1 0) := by have := hI.2.2.2.1; rw [this.1, this.2.1]; exact this.2.2
  have hlo : ∀ r k : Int, (0 ≤ r ∧ r < S 22 0 6) → 0 ≤ k → k < rof (S 22 0) r 1 (S 22 0 5).toNat → 0 ≤ lout (S 22 0) r k (S 22 0 5).toNat ∧ lout (S 22 0) r k (S 22 0 5).toNat < S 22 0 5 := by
    intro r k a b d
    have h1 := (hB.2.2.2.2.2 r k a.1 a.2 b d).2.1
    have h2 := lout_rg (S 22 0) r k (S 22 0 5).toNat
    omega
  unfold LvL

  refine Go_aload d_L_law_281 lg1 ⟨_, rfl⟩ ?_
  refine Go_aload d_L_law_282 lg0 ⟨_, rfl⟩ ?_
  refine Go_iload d_L_law_283 lg3 ?_
  refine Go_const d_L_law_284 ?_
  refine Go_iadd d_L_law_285 ?_
  refine Go_sld rfl d_L_law_286 hL (by omega) ?_
  refine Go_V1p d_L_law_287 kX (c_X_inside _ (i32_rg _) hB hW) (Nat.le_of_ble_eq_true rfl) ?_
  refine Go_aload d_L_law_290 lg2 ⟨_, rfl⟩ ?_
  refine Go_aload d_L_law_291 lg0 ⟨_, rfl⟩ ?_
  refine Go_iload d_L_law_292 lg3 ?_
  refine Go_const d_L_law_293 ?_
  refine Go_iadd d_L_law_294 ?_
  refine Go_sld rfl d_L_law_295 hL (by omega) ?_
  refine Go_V1p d_L_law_296 kM (c_M_inside _ (i32_rg _) h5 hr) (Nat.le_of_ble_eq_true rfl) ?_
  exact Go_icmp_same d_L_law_299 (K _ hI)
theorem law_round (hL : G.2.2.2.2.2.2.2.1 ≤ 3072) (hi : 0 ≤ i ∧ i + 6 ≤ (G.2.2.2.2.2.2.2.1 : Int)) (hI : INV S) (K : ∀ S2, INV S2 → Go G k_L_law 1041 (LvL G i) [] S2 PT) : Go G k_L_law 304 (LvL G i) [] S PT := by
  have hC := hI.1
  have hB := hC.1
  have hW := hC.2.1
  have hN := hW.1
  have hr := hN.1
  have h5 := hN.2.2.2.2.2.2.1
  have h6 := hN.2.2.2.2.2.2.2
  have hu := hI.u
  have hSh := hI.2.2.2.2.1
  have hSk := hI.2.2.2.2.2
  have hT : TOk (S 17 0) (S 17 1 0) := by have := hI.2.2.2.1; rw [this.1, this.2.1]; exact this.2.2
  have hlo : ∀ r k : Int, (0 ≤ r ∧ r < S 22 0 6) → 0 ≤ k → k < rof (S 22 0) r 1 (S 22 0 5).toNat → 0 ≤ lout (S 22 0) r k (S 22 0 5).toNat ∧ lout (S 22 0) r k (S 22 0 5).toNat < S 22 0 5 := by
    intro r k a b d
    have h1 := (hB.2.2.2.2.2 r k a.1 a.2 b d).2.1
    have h2 := lout_rg (S 22 0) r k (S 22 0 5).toNat
    omega
  unfold LvL

  refine Go_aload d_L_law_304 lg1 ⟨_, rfl⟩ ?_
  refine Go_aload d_L_law_305 lg0 ⟨_, rfl⟩ ?_
  refine Go_iload d_L_law_306 lg3 ?_
  refine Go_const d_L_law_307 ?_
  refine Go_iadd d_L_law_308 ?_
  refine Go_sld rfl d_L_law_309 hL (by omega) ?_
  refine Go_aload d_L_law_310 lg0 ⟨_, rfl⟩ ?_
  refine Go_iload d_L_law_311 lg3 ?_
  refine Go_const d_L_law_312 ?_
  refine Go_iadd d_L_law_313 ?_
  refine Go_sld rfl d_L_law_314 hL (by omega) ?_
  refine Go_V2p d_L_law_315 kX (c_X_round _ _ (i32_rg _) (i32_rg _) hB hW) (Nat.le_of_ble_eq_true rfl) ?_
  refine Go_aload d_L_law_318 lg2 ⟨_, rfl⟩ ?_
  refine Go_aload d_L_law_319 lg0 ⟨_, rfl⟩ ?_
  refine Go_iload d_L_law_320 lg3 ?_
  refine Go_const d_L_law_321 ?_
  refine Go_iadd d_L_law_322 ?_
  refine Go_sld rfl d_L_law_323 hL (by omega) ?_
  refine Go_aload d_L_law_324 lg0 ⟨_, rfl⟩ ?_
  refine Go_iload d_L_law_325 lg3 ?_
  refine Go_const d_L_law_326 ?_
  refine Go_iadd d_L_law_327 ?_
  refine Go_sld rfl d_L_law_328 hL (by omega) ?_
  refine Go_V2p d_L_law_329 kM (c_M_round _ _ (i32_rg _) (i32_rg _) h5 h6 hr) (Nat.le_of_ble_eq_true rfl) ?_
  exact Go_icmp_same d_L_law_332 (K _ hI)
theorem law_out (hL : G.2.2.2.2.2.2.2.1 ≤ 3072) (hi : 0 ≤ i ∧ i + 6 ≤ (G.2.2.2.2.2.2.2.1 : Int)) (hI : INV S) (K : ∀ S2, INV S2 → Go G k_L_law 1041 (LvL G i) [] S2 PT) : Go G k_L_law 337 (LvL G i) [] S PT := by
  have hC := hI.1
  have hB := hC.1
  have hW := hC.2.1
  have hN := hW.1
  have hr := hN.1
  have h5 := hN.2.2.2.2.2.2.1
  have h6 := hN.2.2.2.2.2.2.2
  have hu := hI.u
  have hSh := hI.2.2.2.2.1
  have hSk := hI.2.2.2.2.2
  have hT : TOk (S 17 0) (S 17 1 0) := by have := hI.2.2.2.1; rw [this.1, this.2.1]; exact this.2.2
  have hlo : ∀ r k : Int, (0 ≤ r ∧ r < S 22 0 6) → 0 ≤ k → k < rof (S 22 0) r 1 (S 22 0 5).toNat → 0 ≤ lout (S 22 0) r k (S 22 0 5).toNat ∧ lout (S 22 0) r k (S 22 0 5).toNat < S 22 0 5 := by
    intro r k a b d
    have h1 := (hB.2.2.2.2.2 r k a.1 a.2 b d).2.1
    have h2 := lout_rg (S 22 0) r k (S 22 0 5).toNat
    omega
  unfold LvL

  refine Go_aload d_L_law_337 lg1 ⟨_, rfl⟩ ?_
  refine Go_aload d_L_law_338 lg0 ⟨_, rfl⟩ ?_
  refine Go_iload d_L_law_339 lg3 ?_
  refine Go_const d_L_law_340 ?_
  refine Go_iadd d_L_law_341 ?_
  refine Go_sld rfl d_L_law_342 hL (by omega) ?_
  refine Go_aload d_L_law_343 lg0 ⟨_, rfl⟩ ?_
  refine Go_iload d_L_law_344 lg3 ?_
  refine Go_const d_L_law_345 ?_
  refine Go_iadd d_L_law_346 ?_
  refine Go_sld rfl d_L_law_347 hL (by omega) ?_
  refine Go_aload d_L_law_348 lg0 ⟨_, rfl⟩ ?_
  refine Go_iload d_L_law_349 lg3 ?_
  refine Go_const d_L_law_350 ?_
  refine Go_iadd d_L_law_351 ?_
  refine Go_sld rfl d_L_law_352 hL (by omega) ?_
  refine Go_V3p d_L_law_353 kX (c_X_out _ _ _ (i32_rg _) (i32_rg _) (i32_rg _) hB hW) (Nat.le_of_ble_eq_true rfl) ?_
  refine Go_aload d_L_law_356 lg2 ⟨_, rfl⟩ ?_
  refine Go_aload d_L_law_357 lg0 ⟨_, rfl⟩ ?_
  refine Go_iload d_L_law_358 lg3 ?_
  refine Go_const d_L_law_359 ?_
  refine Go_iadd d_L_law_360 ?_
  refine Go_sld rfl d_L_law_361 hL (by omega) ?_
  refine Go_aload d_L_law_362 lg0 ⟨_, rfl⟩ ?_
  refine Go_iload d_L_law_363 lg3 ?_
  refine Go_const d_L_law_364 ?_
  refine Go_iadd d_L_law_365 ?_
  refine Go_sld rfl d_L_law_366 hL (by omega) ?_
  refine Go_aload d_L_law_367 lg0 ⟨_, rfl⟩ ?_
  refine Go_iload d_L_law_368 lg3 ?_
  refine Go_const d_L_law_369 ?_
  refine Go_iadd d_L_law_370 ?_
  refine Go_sld rfl d_L_law_371 hL (by omega) ?_
  refine Go_V3i d_L_law_372 kM (c_M_out _ _ _ (i32_rg _) (i32_rg _) (i32_rg _) (WN_of hW)) (Nat.le_of_ble_eq_true rfl) ?_
  rintro z2 S2 ⟨rfl, hfw⟩
  have hJ := hI.frW hfw
  exact Go_icmp_same d_L_law_375 (K _ hJ)
theorem law_count (hL : G.2.2.2.2.2.2.2.1 ≤ 3072) (hi : 0 ≤ i ∧ i + 6 ≤ (G.2.2.2.2.2.2.2.1 : Int)) (hI : INV S) (K : ∀ S2, INV S2 → Go G k_L_law 1041 (LvL G i) [] S2 PT) : Go G k_L_law 380 (LvL G i) [] S PT := by
  have hC := hI.1
  have hB := hC.1
  have hW := hC.2.1
  have hN := hW.1
  have hr := hN.1
  have h5 := hN.2.2.2.2.2.2.1
  have h6 := hN.2.2.2.2.2.2.2
  have hu := hI.u
  have hSh := hI.2.2.2.2.1
  have hSk := hI.2.2.2.2.2
  have hT : TOk (S 17 0) (S 17 1 0) := by have := hI.2.2.2.1; rw [this.1, this.2.1]; exact this.2.2
  have hlo : ∀ r k : Int, (0 ≤ r ∧ r < S 22 0 6) → 0 ≤ k → k < rof (S 22 0) r 1 (S 22 0 5).toNat → 0 ≤ lout (S 22 0) r k (S 22 0 5).toNat ∧ lout (S 22 0) r k (S 22 0 5).toNat < S 22 0 5 := by
    intro r k a b d
    have h1 := (hB.2.2.2.2.2 r k a.1 a.2 b d).2.1
    have h2 := lout_rg (S 22 0) r k (S 22 0 5).toNat
    omega
  unfold LvL

  refine Go_aload d_L_law_380 lg1 ⟨_, rfl⟩ ?_
  refine Go_aload d_L_law_381 lg0 ⟨_, rfl⟩ ?_
  refine Go_iload d_L_law_382 lg3 ?_
  refine Go_const d_L_law_383 ?_
  refine Go_iadd d_L_law_384 ?_
  refine Go_sld rfl d_L_law_385 hL (by omega) ?_
  refine Go_V1p d_L_law_386 kX ((by have hq := c_X_count (G := G) (S := S) (G.2.2.2.2.2.2.2.2 (i + 1).toNat).toInt (i32_rg _) hB hW; rw [hI.2.1] at hq; exact hq)) (Nat.le_of_ble_eq_true rfl) ?_
  refine Go_aload d_L_law_389 lg2 ⟨_, rfl⟩ ?_
  refine Go_aload d_L_law_390 lg0 ⟨_, rfl⟩ ?_
  refine Go_iload d_L_law_391 lg3 ?_
  refine Go_const d_L_law_392 ?_
  refine Go_iadd d_L_law_393 ?_
  refine Go_sld rfl d_L_law_394 hL (by omega) ?_
  refine Go_V1p d_L_law_395 kM (c_M_count _ (i32_rg _) h5 hr) (Nat.le_of_ble_eq_true rfl) ?_
  exact Go_icmp_same d_L_law_398 (K _ hI)
theorem law_chance (hL : G.2.2.2.2.2.2.2.1 ≤ 3072) (hi : 0 ≤ i ∧ i + 6 ≤ (G.2.2.2.2.2.2.2.1 : Int)) (hI : INV S) (K : ∀ S2, INV S2 → Go G k_L_law 1041 (LvL G i) [] S2 PT) : Go G k_L_law 403 (LvL G i) [] S PT := by
  have hC := hI.1
  have hB := hC.1
  have hW := hC.2.1
  have hN := hW.1
  have hr := hN.1
  have h5 := hN.2.2.2.2.2.2.1
  have h6 := hN.2.2.2.2.2.2.2
  have hu := hI.u
  have hSh := hI.2.2.2.2.1
  have hSk := hI.2.2.2.2.2
  have hT : TOk (S 17 0) (S 17 1 0) := by have := hI.2.2.2.1; rw [this.1, this.2.1]; exact this.2.2
  have hlo : ∀ r k : Int, (0 ≤ r ∧ r < S 22 0 6) → 0 ≤ k → k < rof (S 22 0) r 1 (S 22 0 5).toNat → 0 ≤ lout (S 22 0) r k (S 22 0 5).toNat ∧ lout (S 22 0) r k (S 22 0 5).toNat < S 22 0 5 := by
    intro r k a b d
    have h1 := (hB.2.2.2.2.2 r k a.1 a.2 b d).2.1
    have h2 := lout_rg (S 22 0) r k (S 22 0 5).toNat
    omega
  unfold LvL

  refine Go_aload d_L_law_403 lg1 ⟨_, rfl⟩ ?_
  refine Go_aload d_L_law_404 lg0 ⟨_, rfl⟩ ?_
  refine Go_iload d_L_law_405 lg3 ?_
  refine Go_const d_L_law_406 ?_
  refine Go_iadd d_L_law_407 ?_
  refine Go_sld rfl d_L_law_408 hL (by omega) ?_
  refine Go_aload d_L_law_409 lg0 ⟨_, rfl⟩ ?_
  refine Go_iload d_L_law_410 lg3 ?_
  refine Go_const d_L_law_411 ?_
  refine Go_iadd d_L_law_412 ?_
  refine Go_sld rfl d_L_law_413 hL (by omega) ?_
  refine Go_aload d_L_law_414 lg0 ⟨_, rfl⟩ ?_
  refine Go_iload d_L_law_415 lg3 ?_
  refine Go_const d_L_law_416 ?_
  refine Go_iadd d_L_law_417 ?_
  refine Go_sld rfl d_L_law_418 hL (by omega) ?_
  refine Go_aload d_L_law_419 lg0 ⟨_, rfl⟩ ?_
  refine Go_iload d_L_law_420 lg3 ?_
  refine Go_const d_L_law_421 ?_
  refine Go_iadd d_L_law_422 ?_
  refine Go_sld rfl d_L_law_423 hL (by omega) ?_
  refine Go_V4p d_L_law_424 kX (c_X_chance _ _ _ _ (i32_rg _) (i32_rg _) (i32_rg _) (i32_rg _) hB hW) (Nat.le_of_ble_eq_true rfl) ?_
  refine Go_aload d_L_law_427 lg2 ⟨_, rfl⟩ ?_
  refine Go_aload d_L_law_428 lg0 ⟨_, rfl⟩ ?_
  refine Go_iload d_L_law_429 lg3 ?_
  refine Go_const d_L_law_430 ?_
  refine Go_iadd d_L_law_431 ?_
  refine Go_sld rfl d_L_law_432 hL (by omega) ?_
  refine Go_aload d_L_law_433 lg0 ⟨_, rfl⟩ ?_
  refine Go_iload d_L_law_434 lg3 ?_
  refine Go_const d_L_law_435 ?_
  refine Go_iadd d_L_law_436 ?_
  refine Go_sld rfl d_L_law_437 hL (by omega) ?_
  refine Go_aload d_L_law_438 lg0 ⟨_, rfl⟩ ?_
  refine Go_iload d_L_law_439 lg3 ?_
  refine Go_const d_L_law_440 ?_
  refine Go_iadd d_L_law_441 ?_
  refine Go_sld rfl d_L_law_442 hL (by omega) ?_
  refine Go_aload d_L_law_443 lg0 ⟨_, rfl⟩ ?_
  refine Go_iload d_L_law_444 lg3 ?_
  refine Go_const d_L_law_445 ?_
  refine Go_iadd d_L_law_446 ?_
  refine Go_sld rfl d_L_law_447 hL (by omega) ?_
  refine Go_V4l d_L_law_448 kM (c_M_chance _ _ _ _ (i32_rg _) (i32_rg _) (i32_rg _) (i32_rg _) (WN_of hW)) (Nat.le_of_ble_eq_true rfl) ?_
  rintro z2 S2 ⟨rfl, hfw⟩
  have hJ := hI.frW hfw
  refine Go_lcmp_same d_L_law_451 ?_
  exact Go_if_eq d_L_law_452 (by decide) (fun _ => K _ hJ) (fun h => absurd rfl h)
theorem law_sender (hL : G.2.2.2.2.2.2.2.1 ≤ 3072) (hi : 0 ≤ i ∧ i + 6 ≤ (G.2.2.2.2.2.2.2.1 : Int)) (hI : INV S) (K : ∀ S2, INV S2 → Go G k_L_law 1041 (LvL G i) [] S2 PT) : Go G k_L_law 457 (LvL G i) [] S PT := by
  have hC := hI.1
  have hB := hC.1
  have hW := hC.2.1
  have hN := hW.1
  have hr := hN.1
  have h5 := hN.2.2.2.2.2.2.1
  have h6 := hN.2.2.2.2.2.2.2
  have hu := hI.u
  have hSh := hI.2.2.2.2.1
  have hSk := hI.2.2.2.2.2
  have hT : TOk (S 17 0) (S 17 1 0) := by have := hI.2.2.2.1; rw [this.1, this.2.1]; exact this.2.2
  have hlo : ∀ r k : Int, (0 ≤ r ∧ r < S 22 0 6) → 0 ≤ k → k < rof (S 22 0) r 1 (S 22 0 5).toNat → 0 ≤ lout (S 22 0) r k (S 22 0 5).toNat ∧ lout (S 22 0) r k (S 22 0 5).toNat < S 22 0 5 := by
    intro r k a b d
    have h1 := (hB.2.2.2.2.2 r k a.1 a.2 b d).2.1
    have h2 := lout_rg (S 22 0) r k (S 22 0 5).toNat
    omega
  unfold LvL

  refine Go_aload d_L_law_457 lg1 ⟨_, rfl⟩ ?_
  refine Go_aload d_L_law_458 lg0 ⟨_, rfl⟩ ?_
  refine Go_iload d_L_law_459 lg3 ?_
  refine Go_const d_L_law_460 ?_
  refine Go_iadd d_L_law_461 ?_
  refine Go_sld rfl d_L_law_462 hL (by omega) ?_
  refine Go_aload d_L_law_463 lg0 ⟨_, rfl⟩ ?_
  refine Go_iload d_L_law_464 lg3 ?_
  refine Go_const d_L_law_465 ?_
  refine Go_iadd d_L_law_466 ?_
  refine Go_sld rfl d_L_law_467 hL (by omega) ?_
  refine Go_aload d_L_law_468 lg0 ⟨_, rfl⟩ ?_
  refine Go_iload d_L_law_469 lg3 ?_
  refine Go_const d_L_law_470 ?_
  refine Go_iadd d_L_law_471 ?_
  refine Go_sld rfl d_L_law_472 hL (by omega) ?_
  refine Go_aload d_L_law_473 lg0 ⟨_, rfl⟩ ?_
  refine Go_iload d_L_law_474 lg3 ?_
  refine Go_const d_L_law_475 ?_
  refine Go_iadd d_L_law_476 ?_
  refine Go_sld rfl d_L_law_477 hL (by omega) ?_
  refine Go_V4p d_L_law_478 kX (c_X_sender _ _ _ _ (i32_rg _) (i32_rg _) (i32_rg _) (i32_rg _) hB hW) (Nat.le_of_ble_eq_true rfl) ?_
  refine Go_aload d_L_law_481 lg2 ⟨_, rfl⟩ ?_
  refine Go_aload d_L_law_482 lg0 ⟨_, rfl⟩ ?_
  refine Go_iload d_L_law_483 lg3 ?_
  refine Go_const d_L_law_484 ?_
  refine Go_iadd d_L_law_485 ?_
  refine Go_sld rfl d_L_law_486 hL (by omega) ?_
  refine Go_aload d_L_law_487 lg0 ⟨_, rfl⟩ ?_
  refine Go_iload d_L_law_488 lg3 ?_
  refine Go_const d_L_law_489 ?_
  refine Go_iadd d_L_law_490 ?_
  refine Go_sld rfl d_L_law_491 hL (by omega) ?_
  refine Go_aload d_L_law_492 lg0 ⟨_, rfl⟩ ?_
  refine Go_iload d_L_law_493 lg3 ?_
  refine Go_const d_L_law_494 ?_
  refine Go_iadd d_L_law_495 ?_
  refine Go_sld rfl d_L_law_496 hL (by omega) ?_
  refine Go_aload d_L_law_497 lg0 ⟨_, rfl⟩ ?_
  refine Go_iload d_L_law_498 lg3 ?_
  refine Go_const d_L_law_499 ?_
  refine Go_iadd d_L_law_500 ?_
  refine Go_sld rfl d_L_law_501 hL (by omega) ?_
  refine Go_V4l d_L_law_502 kM (c_M_sender _ _ _ _ (i32_rg _) (i32_rg _) (i32_rg _) (i32_rg _) (WN_of hW)) (Nat.le_of_ble_eq_true rfl) ?_
  rintro z2 S2 ⟨rfl, hfw⟩
  have hJ := hI.frW hfw
  refine Go_lcmp_same d_L_law_505 ?_
  exact Go_if_eq d_L_law_506 (by decide) (fun _ => K _ hJ) (fun h => absurd rfl h)
theorem law_stays (hL : G.2.2.2.2.2.2.2.1 ≤ 3072) (hi : 0 ≤ i ∧ i + 6 ≤ (G.2.2.2.2.2.2.2.1 : Int)) (hI : INV S) (K : ∀ S2, INV S2 → Go G k_L_law 1041 (LvL G i) [] S2 PT) : Go G k_L_law 511 (LvL G i) [] S PT := by
  have hC := hI.1
  have hB := hC.1
  have hW := hC.2.1
  have hN := hW.1
  have hr := hN.1
  have h5 := hN.2.2.2.2.2.2.1
  have h6 := hN.2.2.2.2.2.2.2
  have hu := hI.u
  have hSh := hI.2.2.2.2.1
  have hSk := hI.2.2.2.2.2
  have hT : TOk (S 17 0) (S 17 1 0) := by have := hI.2.2.2.1; rw [this.1, this.2.1]; exact this.2.2
  have hlo : ∀ r k : Int, (0 ≤ r ∧ r < S 22 0 6) → 0 ≤ k → k < rof (S 22 0) r 1 (S 22 0 5).toNat → 0 ≤ lout (S 22 0) r k (S 22 0 5).toNat ∧ lout (S 22 0) r k (S 22 0 5).toNat < S 22 0 5 := by
    intro r k a b d
    have h1 := (hB.2.2.2.2.2 r k a.1 a.2 b d).2.1
    have h2 := lout_rg (S 22 0) r k (S 22 0 5).toNat
    omega
  unfold LvL

  refine Go_aload d_L_law_511 lg1 ⟨_, rfl⟩ ?_
  refine Go_aload d_L_law_512 lg0 ⟨_, rfl⟩ ?_
  refine Go_iload d_L_law_513 lg3 ?_
  refine Go_const d_L_law_514 ?_
  refine Go_iadd d_L_law_515 ?_
  refine Go_sld rfl d_L_law_516 hL (by omega) ?_
  refine Go_aload d_L_law_517 lg0 ⟨_, rfl⟩ ?_
  refine Go_iload d_L_law_518 lg3 ?_
  refine Go_const d_L_law_519 ?_
  refine Go_iadd d_L_law_520 ?_
  refine Go_sld rfl d_L_law_521 hL (by omega) ?_
  refine Go_V2p d_L_law_522 kX (c_X_stays _ _ (i32_rg _) (i32_rg _) hB hW) (Nat.le_of_ble_eq_true rfl) ?_
  refine Go_aload d_L_law_525 lg2 ⟨_, rfl⟩ ?_
  refine Go_aload d_L_law_526 lg0 ⟨_, rfl⟩ ?_
  refine Go_iload d_L_law_527 lg3 ?_
  refine Go_const d_L_law_528 ?_
  refine Go_iadd d_L_law_529 ?_
  refine Go_sld rfl d_L_law_530 hL (by omega) ?_
  refine Go_aload d_L_law_531 lg0 ⟨_, rfl⟩ ?_
  refine Go_iload d_L_law_532 lg3 ?_
  refine Go_const d_L_law_533 ?_
  refine Go_iadd d_L_law_534 ?_
  refine Go_sld rfl d_L_law_535 hL (by omega) ?_
  refine Go_V2l d_L_law_536 kM (c_M_stays _ _ (i32_rg _) (i32_rg _) (WN_of hW)) (Nat.le_of_ble_eq_true rfl) ?_
  rintro z2 S2 ⟨rfl, hfw⟩
  have hJ := hI.frW hfw
  refine Go_lcmp_same d_L_law_539 ?_
  exact Go_if_eq d_L_law_540 (by decide) (fun _ => K _ hJ) (fun h => absurd rfl h)
theorem law_expected (hL : G.2.2.2.2.2.2.2.1 ≤ 3072) (hi : 0 ≤ i ∧ i + 6 ≤ (G.2.2.2.2.2.2.2.1 : Int)) (hI : INV S) (K : ∀ S2, INV S2 → Go G k_L_law 1041 (LvL G i) [] S2 PT) : Go G k_L_law 545 (LvL G i) [] S PT := by
  have hC := hI.1
  have hB := hC.1
  have hW := hC.2.1
  have hN := hW.1
  have hr := hN.1
  have h5 := hN.2.2.2.2.2.2.1
  have h6 := hN.2.2.2.2.2.2.2
  have hu := hI.u
  have hSh := hI.2.2.2.2.1
  have hSk := hI.2.2.2.2.2
  have hT : TOk (S 17 0) (S 17 1 0) := by have := hI.2.2.2.1; rw [this.1, this.2.1]; exact this.2.2
  have hlo : ∀ r k : Int, (0 ≤ r ∧ r < S 22 0 6) → 0 ≤ k → k < rof (S 22 0) r 1 (S 22 0 5).toNat → 0 ≤ lout (S 22 0) r k (S 22 0 5).toNat ∧ lout (S 22 0) r k (S 22 0 5).toNat < S 22 0 5 := by
    intro r k a b d
    have h1 := (hB.2.2.2.2.2 r k a.1 a.2 b d).2.1
    have h2 := lout_rg (S 22 0) r k (S 22 0 5).toNat
    omega
  unfold LvL

  refine Go_aload d_L_law_545 lg1 ⟨_, rfl⟩ ?_
  refine Go_aload d_L_law_546 lg0 ⟨_, rfl⟩ ?_
  refine Go_iload d_L_law_547 lg3 ?_
  refine Go_const d_L_law_548 ?_
  refine Go_iadd d_L_law_549 ?_
  refine Go_sld rfl d_L_law_550 hL (by omega) ?_
  refine Go_aload d_L_law_551 lg0 ⟨_, rfl⟩ ?_
  refine Go_iload d_L_law_552 lg3 ?_
  refine Go_const d_L_law_553 ?_
  refine Go_iadd d_L_law_554 ?_
  refine Go_sld rfl d_L_law_555 hL (by omega) ?_
  refine Go_aload d_L_law_556 lg0 ⟨_, rfl⟩ ?_
  refine Go_iload d_L_law_557 lg3 ?_
  refine Go_const d_L_law_558 ?_
  refine Go_iadd d_L_law_559 ?_
  refine Go_sld rfl d_L_law_560 hL (by omega) ?_
  refine Go_V3p d_L_law_561 kX (c_X_expected _ _ _ (i32_rg _) (i32_rg _) (i32_rg _) hB hW) (Nat.le_of_ble_eq_true rfl) ?_
  refine Go_aload d_L_law_564 lg2 ⟨_, rfl⟩ ?_
  refine Go_aload d_L_law_565 lg0 ⟨_, rfl⟩ ?_
  refine Go_iload d_L_law_566 lg3 ?_
  refine Go_const d_L_law_567 ?_
  refine Go_iadd d_L_law_568 ?_
  refine Go_sld rfl d_L_law_569 hL (by omega) ?_
  refine Go_aload d_L_law_570 lg0 ⟨_, rfl⟩ ?_
  refine Go_iload d_L_law_571 lg3 ?_
  refine Go_const d_L_law_572 ?_
  refine Go_iadd d_L_law_573 ?_
  refine Go_sld rfl d_L_law_574 hL (by omega) ?_
  refine Go_aload d_L_law_575 lg0 ⟨_, rfl⟩ ?_
  refine Go_iload d_L_law_576 lg3 ?_
  refine Go_const d_L_law_577 ?_
  refine Go_iadd d_L_law_578 ?_
  refine Go_sld rfl d_L_law_579 hL (by omega) ?_
  refine Go_V3l d_L_law_580 kM (c_M_expected _ _ _ (i32_rg _) (i32_rg _) (i32_rg _) (WN_of hW)) (Nat.le_of_ble_eq_true rfl) ?_
  rintro z2 S2 ⟨rfl, hfw⟩
  have hJ := hI.frW hfw
  refine Go_lcmp_same d_L_law_583 ?_
  exact Go_if_eq d_L_law_584 (by decide) (fun _ => K _ hJ) (fun h => absurd rfl h)
theorem law_blend (hL : G.2.2.2.2.2.2.2.1 ≤ 3072) (hi : 0 ≤ i ∧ i + 6 ≤ (G.2.2.2.2.2.2.2.1 : Int)) (hI : INV S) (K : ∀ S2, INV S2 → Go G k_L_law 1041 (LvL G i) [] S2 PT) : Go G k_L_law 589 (LvL G i) [] S PT := by
  have hC := hI.1
  have hB := hC.1
  have hW := hC.2.1
  have hN := hW.1
  have hr := hN.1
  have h5 := hN.2.2.2.2.2.2.1
  have h6 := hN.2.2.2.2.2.2.2
  have hu := hI.u
  have hSh := hI.2.2.2.2.1
  have hSk := hI.2.2.2.2.2
  have hT : TOk (S 17 0) (S 17 1 0) := by have := hI.2.2.2.1; rw [this.1, this.2.1]; exact this.2.2
  have hlo : ∀ r k : Int, (0 ≤ r ∧ r < S 22 0 6) → 0 ≤ k → k < rof (S 22 0) r 1 (S 22 0 5).toNat → 0 ≤ lout (S 22 0) r k (S 22 0 5).toNat ∧ lout (S 22 0) r k (S 22 0 5).toNat < S 22 0 5 := by
    intro r k a b d
    have h1 := (hB.2.2.2.2.2 r k a.1 a.2 b d).2.1
    have h2 := lout_rg (S 22 0) r k (S 22 0 5).toNat
    omega
  unfold LvL

  refine Go_aload d_L_law_589 lg1 ⟨_, rfl⟩ ?_
  refine Go_V0p d_L_law_590 kX (c_X_blend  hB hW) (Nat.le_of_ble_eq_true rfl) ?_
  refine Go_aload d_L_law_593 lg2 ⟨_, rfl⟩ ?_
  refine Go_V0p d_L_law_594 kM (c_M_blend  hN) (Nat.le_of_ble_eq_true rfl) ?_
  exact Go_icmp_same d_L_law_597 (K _ hI)
theorem law_type (hL : G.2.2.2.2.2.2.2.1 ≤ 3072) (hi : 0 ≤ i ∧ i + 6 ≤ (G.2.2.2.2.2.2.2.1 : Int)) (hI : INV S) (K : ∀ S2, INV S2 → Go G k_L_law 1041 (LvL G i) [] S2 PT) : Go G k_L_law 602 (LvL G i) [] S PT := by
  have hC := hI.1
  have hB := hC.1
  have hW := hC.2.1
  have hN := hW.1
  have hr := hN.1
  have h5 := hN.2.2.2.2.2.2.1
  have h6 := hN.2.2.2.2.2.2.2
  have hu := hI.u
  have hSh := hI.2.2.2.2.1
  have hSk := hI.2.2.2.2.2
  have hT : TOk (S 17 0) (S 17 1 0) := by have := hI.2.2.2.1; rw [this.1, this.2.1]; exact this.2.2
  have hlo : ∀ r k : Int, (0 ≤ r ∧ r < S 22 0 6) → 0 ≤ k → k < rof (S 22 0) r 1 (S 22 0 5).toNat → 0 ≤ lout (S 22 0) r k (S 22 0 5).toNat ∧ lout (S 22 0) r k (S 22 0 5).toNat < S 22 0 5 := by
    intro r k a b d
    have h1 := (hB.2.2.2.2.2 r k a.1 a.2 b d).2.1
    have h2 := lout_rg (S 22 0) r k (S 22 0 5).toNat
    omega
  unfold LvL

  refine Go_aload d_L_law_602 lg1 ⟨_, rfl⟩ ?_
  refine Go_aload d_L_law_603 lg0 ⟨_, rfl⟩ ?_
  refine Go_iload d_L_law_604 lg3 ?_
  refine Go_const d_L_law_605 ?_
  refine Go_iadd d_L_law_606 ?_
  refine Go_sld rfl d_L_law_607 hL (by omega) ?_
  refine Go_V1i d_L_law_608 kX (c_X_type _ (i32_rg _) hT) (Nat.le_of_ble_eq_true rfl) ?_
  rintro z S1 q1
  have e22 : S1 22 = S 22 := by
    rcases q1 with ⟨-, -, rfl⟩ | ⟨-, -, -, rfl⟩ | ⟨-, -, -, rfl⟩
    · rfl
    · rfl
    · rw [st3_sB, sB_c (by decide), st3_sB, sB_c (by decide)]
  refine Go_aload d_L_law_611 lg2 ⟨_, rfl⟩ ?_
  refine Go_aload d_L_law_612 lg0 ⟨_, rfl⟩ ?_
  refine Go_iload d_L_law_613 lg3 ?_
  refine Go_const d_L_law_614 ?_
  refine Go_iadd d_L_law_615 ?_
  refine Go_sld rfl d_L_law_616 hL (by omega) ?_
  refine Go_V1i d_L_law_617 kM (c_M_type _ (i32_rg _) (by rw [e22]; exact hI.2.2.2.1.2.2)) (Nat.le_of_ble_eq_true rfl) ?_
  rintro z2 S2 q2
  obtain ⟨rfl, hJ⟩ := L_type hI q1 q2
  exact Go_icmp_same d_L_law_620 (K _ hJ)
theorem law_read (hL : G.2.2.2.2.2.2.2.1 ≤ 3072) (hi : 0 ≤ i ∧ i + 6 ≤ (G.2.2.2.2.2.2.2.1 : Int)) (hI : INV S) (K : ∀ S2, INV S2 → Go G k_L_law 1041 (LvL G i) [] S2 PT) : Go G k_L_law 625 (LvL G i) [] S PT := by
  have hC := hI.1
  have hB := hC.1
  have hW := hC.2.1
  have hN := hW.1
  have hr := hN.1
  have h5 := hN.2.2.2.2.2.2.1
  have h6 := hN.2.2.2.2.2.2.2
  have hu := hI.u
  have hSh := hI.2.2.2.2.1
  have hSk := hI.2.2.2.2.2
  have hT : TOk (S 17 0) (S 17 1 0) := by have := hI.2.2.2.1; rw [this.1, this.2.1]; exact this.2.2
  have hlo : ∀ r k : Int, (0 ≤ r ∧ r < S 22 0 6) → 0 ≤ k → k < rof (S 22 0) r 1 (S 22 0 5).toNat → 0 ≤ lout (S 22 0) r k (S 22 0 5).toNat ∧ lout (S 22 0) r k (S 22 0 5).toNat < S 22 0 5 := by
    intro r k a b d
    have h1 := (hB.2.2.2.2.2 r k a.1 a.2 b d).2.1
    have h2 := lout_rg (S 22 0) r k (S 22 0 5).toNat
    omega
  unfold LvL

  refine Go_aload d_L_law_625 lg1 ⟨_, rfl⟩ ?_
  refine Go_V0i d_L_law_626 kX (c_X_read hI.2.2.2.1.1 hI.2.2.2.1.2.1 hI.2.2.2.1.2.2 hC) (Nat.le_of_ble_eq_true rfl) ?_
  rintro z S1 q1
  have e22 : S1 22 = S 22 := by
    rcases q1 with ⟨-, -, -, -, -, -, hF⟩ | ⟨-, -, -, -, -, -, hF⟩
    · exact hF 22 (by decide) (by decide) (by decide) (by decide)
    · exact hF 22 (by decide) (by decide) (by decide) (by decide)
  refine Go_aload d_L_law_629 lg2 ⟨_, rfl⟩ ?_
  refine Go_V0i d_L_law_630 kM (c_M_read  (by rw [e22]; exact hN) (by rw [e22]; exact hu) (by rw [e22]; exact hI.2.2.2.1.2.2)) (Nat.le_of_ble_eq_true rfl) ?_
  rintro z2 S2 q2
  rw [e22] at q2
  obtain ⟨rfl, hJ⟩ := L_read hI q1 q2
  exact Go_icmp_same d_L_law_633 (K _ hJ)
theorem law_drift (hL : G.2.2.2.2.2.2.2.1 ≤ 3072) (hi : 0 ≤ i ∧ i + 6 ≤ (G.2.2.2.2.2.2.2.1 : Int)) (hI : INV S) (K : ∀ S2, INV S2 → Go G k_L_law 1041 (LvL G i) [] S2 PT) : Go G k_L_law 638 (LvL G i) [] S PT := by
  have hC := hI.1
  have hB := hC.1
  have hW := hC.2.1
  have hN := hW.1
  have hr := hN.1
  have h5 := hN.2.2.2.2.2.2.1
  have h6 := hN.2.2.2.2.2.2.2
  have hu := hI.u
  have hSh := hI.2.2.2.2.1
  have hSk := hI.2.2.2.2.2
  have hT : TOk (S 17 0) (S 17 1 0) := by have := hI.2.2.2.1; rw [this.1, this.2.1]; exact this.2.2
  have hlo : ∀ r k : Int, (0 ≤ r ∧ r < S 22 0 6) → 0 ≤ k → k < rof (S 22 0) r 1 (S 22 0 5).toNat → 0 ≤ lout (S 22 0) r k (S 22 0 5).toNat ∧ lout (S 22 0) r k (S 22 0 5).toNat < S 22 0 5 := by
    intro r k a b d
    have h1 := (hB.2.2.2.2.2 r k a.1 a.2 b d).2.1
    have h2 := lout_rg (S 22 0) r k (S 22 0 5).toNat
    omega
  unfold LvL

  refine Go_aload d_L_law_638 lg1 ⟨_, rfl⟩ ?_
  refine Go_aload d_L_law_639 lg0 ⟨_, rfl⟩ ?_
  refine Go_iload d_L_law_640 lg3 ?_
  refine Go_const d_L_law_641 ?_
  refine Go_iadd d_L_law_642 ?_
  refine Go_sld rfl d_L_law_643 hL (by omega) ?_
  refine Go_V1i d_L_law_644 kX (c_X_drift _ (i32_rg _) hC) (Nat.le_of_ble_eq_true rfl) ?_
  rintro z S1 q1
  have e22 : S1 22 = S 22 := by
    rcases q1 with ⟨-, -, rfl⟩ | ⟨-, -, -, -, hF⟩
    · rfl
    · exact hF.e22
  refine Go_aload d_L_law_647 lg2 ⟨_, rfl⟩ ?_
  refine Go_aload d_L_law_648 lg0 ⟨_, rfl⟩ ?_
  refine Go_iload d_L_law_649 lg3 ?_
  refine Go_const d_L_law_650 ?_
  refine Go_iadd d_L_law_651 ?_
  refine Go_sld rfl d_L_law_652 hL (by omega) ?_
  refine Go_V1i d_L_law_653 kM (c_M_drift _ (i32_rg _) (by rw [e22]; exact hN) (by rw [e22]; exact hu)) (Nat.le_of_ble_eq_true rfl) ?_
  rintro z2 S2 q2
  obtain ⟨rfl, hJ⟩ := L_drift hI q1 q2
  exact Go_icmp_same d_L_law_656 (K _ hJ)
theorem law_undo (hL : G.2.2.2.2.2.2.2.1 ≤ 3072) (hi : 0 ≤ i ∧ i + 6 ≤ (G.2.2.2.2.2.2.2.1 : Int)) (hI : INV S) (K : ∀ S2, INV S2 → Go G k_L_law 1041 (LvL G i) [] S2 PT) : Go G k_L_law 661 (LvL G i) [] S PT := by
  have hC := hI.1
  have hB := hC.1
  have hW := hC.2.1
  have hN := hW.1
  have hr := hN.1
  have h5 := hN.2.2.2.2.2.2.1
  have h6 := hN.2.2.2.2.2.2.2
  have hu := hI.u
  have hSh := hI.2.2.2.2.1
  have hSk := hI.2.2.2.2.2
  have hT : TOk (S 17 0) (S 17 1 0) := by have := hI.2.2.2.1; rw [this.1, this.2.1]; exact this.2.2
  have hlo : ∀ r k : Int, (0 ≤ r ∧ r < S 22 0 6) → 0 ≤ k → k < rof (S 22 0) r 1 (S 22 0 5).toNat → 0 ≤ lout (S 22 0) r k (S 22 0 5).toNat ∧ lout (S 22 0) r k (S 22 0 5).toNat < S 22 0 5 := by
    intro r k a b d
    have h1 := (hB.2.2.2.2.2 r k a.1 a.2 b d).2.1
    have h2 := lout_rg (S 22 0) r k (S 22 0 5).toNat
    omega
  unfold LvL

  refine Go_aload d_L_law_661 lg1 ⟨_, rfl⟩ ?_
  refine Go_V0i d_L_law_662 kX (c_X_undo  hC) (Nat.le_of_ble_eq_true rfl) ?_
  rintro z S1 q1
  have e22 : S1 22 = S 22 := by
    rcases q1 with ⟨-, -, rfl⟩ | ⟨-, -, -, -, hF⟩
    · rfl
    · exact hF.e22
  refine Go_aload d_L_law_665 lg2 ⟨_, rfl⟩ ?_
  refine Go_V0i d_L_law_666 kM (c_M_undo  (by rw [e22]; exact hu)) (Nat.le_of_ble_eq_true rfl) ?_
  rintro z2 S2 q2
  obtain ⟨rfl, hJ⟩ := L_undo hI q1 q2
  exact Go_icmp_same d_L_law_669 (K _ hJ)
theorem law_seed (hL : G.2.2.2.2.2.2.2.1 ≤ 3072) (hi : 0 ≤ i ∧ i + 6 ≤ (G.2.2.2.2.2.2.2.1 : Int)) (hI : INV S) (K : ∀ S2, INV S2 → Go G k_L_law 1041 (LvL G i) [] S2 PT) : Go G k_L_law 674 (LvL G i) [] S PT := by
  have hC := hI.1
  have hB := hC.1
  have hW := hC.2.1
  have hN := hW.1
  have hr := hN.1
  have h5 := hN.2.2.2.2.2.2.1
  have h6 := hN.2.2.2.2.2.2.2
  have hu := hI.u
  have hSh := hI.2.2.2.2.1
  have hSk := hI.2.2.2.2.2
  have hT : TOk (S 17 0) (S 17 1 0) := by have := hI.2.2.2.1; rw [this.1, this.2.1]; exact this.2.2
  have hlo : ∀ r k : Int, (0 ≤ r ∧ r < S 22 0 6) → 0 ≤ k → k < rof (S 22 0) r 1 (S 22 0 5).toNat → 0 ≤ lout (S 22 0) r k (S 22 0 5).toNat ∧ lout (S 22 0) r k (S 22 0 5).toNat < S 22 0 5 := by
    intro r k a b d
    have h1 := (hB.2.2.2.2.2 r k a.1 a.2 b d).2.1
    have h2 := lout_rg (S 22 0) r k (S 22 0 5).toNat
    omega
  unfold LvL

  refine Go_aload d_L_law_674 lg1 ⟨_, rfl⟩ ?_
  refine Go_aload d_L_law_675 lg0 ⟨_, rfl⟩ ?_
  refine Go_iload d_L_law_676 lg3 ?_
  refine Go_const d_L_law_677 ?_
  refine Go_iadd d_L_law_678 ?_
  refine Go_sld rfl d_L_law_679 hL (by omega) ?_
  refine Go_V1i d_L_law_680 kX (c_X_seed _ (i32_rg _) hC) (Nat.le_of_ble_eq_true rfl) ?_
  rintro z S1 q1
  have e22 : S1 22 = S 22 := by
    rcases q1 with ⟨-, -, rfl⟩ | ⟨-, -, -, -, hF⟩
    · rfl
    · exact hF.e22
  refine Go_aload d_L_law_683 lg2 ⟨_, rfl⟩ ?_
  refine Go_aload d_L_law_684 lg0 ⟨_, rfl⟩ ?_
  refine Go_iload d_L_law_685 lg3 ?_
  refine Go_const d_L_law_686 ?_
  refine Go_iadd d_L_law_687 ?_
  refine Go_sld rfl d_L_law_688 hL (by omega) ?_
  refine Go_V1i d_L_law_689 kM (c_M_seed _ (i32_rg _) ) (Nat.le_of_ble_eq_true rfl) ?_
  rintro z2 S2 q2
  obtain ⟨rfl, hJ⟩ := L_seed hI q1 q2
  exact Go_icmp_same d_L_law_692 (K _ hJ)
theorem law_image (hL : G.2.2.2.2.2.2.2.1 ≤ 3072) (hi : 0 ≤ i ∧ i + 6 ≤ (G.2.2.2.2.2.2.2.1 : Int)) (hI : INV S) (K : ∀ S2, INV S2 → Go G k_L_law 1041 (LvL G i) [] S2 PT) : Go G k_L_law 697 (LvL G i) [] S PT := by
  have hC := hI.1
  have hB := hC.1
  have hW := hC.2.1
  have hN := hW.1
  have hr := hN.1
  have h5 := hN.2.2.2.2.2.2.1
  have h6 := hN.2.2.2.2.2.2.2
  have hu := hI.u
  have hSh := hI.2.2.2.2.1
  have hSk := hI.2.2.2.2.2
  have hT : TOk (S 17 0) (S 17 1 0) := by have := hI.2.2.2.1; rw [this.1, this.2.1]; exact this.2.2
  have hlo : ∀ r k : Int, (0 ≤ r ∧ r < S 22 0 6) → 0 ≤ k → k < rof (S 22 0) r 1 (S 22 0 5).toNat → 0 ≤ lout (S 22 0) r k (S 22 0 5).toNat ∧ lout (S 22 0) r k (S 22 0 5).toNat < S 22 0 5 := by
    intro r k a b d
    have h1 := (hB.2.2.2.2.2 r k a.1 a.2 b d).2.1
    have h2 := lout_rg (S 22 0) r k (S 22 0 5).toNat
    omega
  unfold LvL

  refine Go_aload d_L_law_697 lg1 ⟨_, rfl⟩ ?_
  refine Go_V0i d_L_law_698 kX (c_X_image  hC) (Nat.le_of_ble_eq_true rfl) ?_
  rintro z S1 q1
  have e22 : S1 22 = S 22 := by
    exact q1.2.2.2.2.2 22 (by decide) (by decide) (by decide) (by decide)
  refine Go_aload d_L_law_701 lg2 ⟨_, rfl⟩ ?_
  refine Go_V0i d_L_law_702 kM (c_M_image  ) (Nat.le_of_ble_eq_true rfl) ?_
  rintro z2 S2 q2
  obtain ⟨rfl, hJ⟩ := L_image hI q1 q2
  exact Go_icmp_same d_L_law_705 (K _ hJ)
theorem law_restore (hL : G.2.2.2.2.2.2.2.1 ≤ 3072) (hi : 0 ≤ i ∧ i + 6 ≤ (G.2.2.2.2.2.2.2.1 : Int)) (hI : INV S) (K : ∀ S2, INV S2 → Go G k_L_law 1041 (LvL G i) [] S2 PT) : Go G k_L_law 710 (LvL G i) [] S PT := by
  have hC := hI.1
  have hB := hC.1
  have hW := hC.2.1
  have hN := hW.1
  have hr := hN.1
  have h5 := hN.2.2.2.2.2.2.1
  have h6 := hN.2.2.2.2.2.2.2
  have hu := hI.u
  have hSh := hI.2.2.2.2.1
  have hSk := hI.2.2.2.2.2
  have hT : TOk (S 17 0) (S 17 1 0) := by have := hI.2.2.2.1; rw [this.1, this.2.1]; exact this.2.2
  have hlo : ∀ r k : Int, (0 ≤ r ∧ r < S 22 0 6) → 0 ≤ k → k < rof (S 22 0) r 1 (S 22 0 5).toNat → 0 ≤ lout (S 22 0) r k (S 22 0 5).toNat ∧ lout (S 22 0) r k (S 22 0 5).toNat < S 22 0 5 := by
    intro r k a b d
    have h1 := (hB.2.2.2.2.2 r k a.1 a.2 b d).2.1
    have h2 := lout_rg (S 22 0) r k (S 22 0 5).toNat
    omega
  unfold LvL
  have him0 : S 0 4 0 = 0 ∨ S 0 4 0 = 1 := by rcases hI.2.2.1.2.2 with ⟨d, -⟩ | ⟨d, -⟩ <;> omega
  have him1 : S 0 4 0 = 1 → BR (S 8) (S 22 9) ∧ WF (S 22 9) ∧ PR S 16 (S 22 10) := by
    intro h
    rcases hI.2.2.1.2.2 with ⟨d, -⟩ | ⟨d, -, d3, d4, d5⟩
    · omega
    · exact ⟨d3, d4, d5⟩

  refine Go_aload d_L_law_710 lg1 ⟨_, rfl⟩ ?_
  refine Go_V0i d_L_law_711 kX (c_X_restore (K := S 22 9) (KA := S 22 10) hC him0 him1) (Nat.le_of_ble_eq_true rfl) ?_
  rintro z S1 q1
  have e22 : S1 22 = S 22 := by
    rcases q1 with ⟨-, -, rfl⟩ | ⟨-, -, -, -, -, hF⟩
    · rfl
    · exact hF.e22
  refine Go_aload d_L_law_714 lg2 ⟨_, rfl⟩ ?_
  refine Go_V0i d_L_law_715 kM (c_M_restore  (by rw [e22]; exact hI.ku)) (Nat.le_of_ble_eq_true rfl) ?_
  rintro z2 S2 q2
  obtain ⟨rfl, hJ⟩ := L_restore hI q1 q2
  exact Go_icmp_same d_L_law_718 (K _ hJ)
theorem law_fits (hL : G.2.2.2.2.2.2.2.1 ≤ 3072) (hi : 0 ≤ i ∧ i + 6 ≤ (G.2.2.2.2.2.2.2.1 : Int)) (hI : INV S) (K : ∀ S2, INV S2 → Go G k_L_law 1041 (LvL G i) [] S2 PT) : Go G k_L_law 723 (LvL G i) [] S PT := by
  have hC := hI.1
  have hB := hC.1
  have hW := hC.2.1
  have hN := hW.1
  have hr := hN.1
  have h5 := hN.2.2.2.2.2.2.1
  have h6 := hN.2.2.2.2.2.2.2
  have hu := hI.u
  have hSh := hI.2.2.2.2.1
  have hSk := hI.2.2.2.2.2
  have hT : TOk (S 17 0) (S 17 1 0) := by have := hI.2.2.2.1; rw [this.1, this.2.1]; exact this.2.2
  have hlo : ∀ r k : Int, (0 ≤ r ∧ r < S 22 0 6) → 0 ≤ k → k < rof (S 22 0) r 1 (S 22 0 5).toNat → 0 ≤ lout (S 22 0) r k (S 22 0 5).toNat ∧ lout (S 22 0) r k (S 22 0 5).toNat < S 22 0 5 := by
    intro r k a b d
    have h1 := (hB.2.2.2.2.2 r k a.1 a.2 b d).2.1
    have h2 := lout_rg (S 22 0) r k (S 22 0 5).toNat
    omega
  unfold LvL

  refine Go_aload d_L_law_723 lg1 ⟨_, rfl⟩ ?_
  refine Go_aload d_L_law_724 lg0 ⟨_, rfl⟩ ?_
  refine Go_iload d_L_law_725 lg3 ?_
  refine Go_const d_L_law_726 ?_
  refine Go_iadd d_L_law_727 ?_
  refine Go_sld rfl d_L_law_728 hL (by omega) ?_
  refine Go_aload d_L_law_729 lg0 ⟨_, rfl⟩ ?_
  refine Go_iload d_L_law_730 lg3 ?_
  refine Go_const d_L_law_731 ?_
  refine Go_iadd d_L_law_732 ?_
  refine Go_sld rfl d_L_law_733 hL (by omega) ?_
  refine Go_aload d_L_law_734 lg0 ⟨_, rfl⟩ ?_
  refine Go_iload d_L_law_735 lg3 ?_
  refine Go_const d_L_law_736 ?_
  refine Go_iadd d_L_law_737 ?_
  refine Go_sld rfl d_L_law_738 hL (by omega) ?_
  refine Go_aload d_L_law_739 lg0 ⟨_, rfl⟩ ?_
  refine Go_iload d_L_law_740 lg3 ?_
  refine Go_const d_L_law_741 ?_
  refine Go_iadd d_L_law_742 ?_
  refine Go_sld rfl d_L_law_743 hL (by omega) ?_
  refine Go_V4p d_L_law_744 kX (c_X_fits _ _ _ _ (i32_rg _) (i32_rg _) (i32_rg _) (i32_rg _) hSh hB hN) (Nat.le_of_ble_eq_true rfl) ?_
  refine Go_aload d_L_law_747 lg2 ⟨_, rfl⟩ ?_
  refine Go_aload d_L_law_748 lg0 ⟨_, rfl⟩ ?_
  refine Go_iload d_L_law_749 lg3 ?_
  refine Go_const d_L_law_750 ?_
  refine Go_iadd d_L_law_751 ?_
  refine Go_sld rfl d_L_law_752 hL (by omega) ?_
  refine Go_aload d_L_law_753 lg0 ⟨_, rfl⟩ ?_
  refine Go_iload d_L_law_754 lg3 ?_
  refine Go_const d_L_law_755 ?_
  refine Go_iadd d_L_law_756 ?_
  refine Go_sld rfl d_L_law_757 hL (by omega) ?_
  refine Go_aload d_L_law_758 lg0 ⟨_, rfl⟩ ?_
  refine Go_iload d_L_law_759 lg3 ?_
  refine Go_const d_L_law_760 ?_
  refine Go_iadd d_L_law_761 ?_
  refine Go_sld rfl d_L_law_762 hL (by omega) ?_
  refine Go_aload d_L_law_763 lg0 ⟨_, rfl⟩ ?_
  refine Go_iload d_L_law_764 lg3 ?_
  refine Go_const d_L_law_765 ?_
  refine Go_iadd d_L_law_766 ?_
  refine Go_sld rfl d_L_law_767 hL (by omega) ?_
  refine Go_V4p d_L_law_768 kM (c_M_fits _ _ _ _ (i32_rg _) (i32_rg _) (i32_rg _) (i32_rg _) hSk hN) (Nat.le_of_ble_eq_true rfl) ?_
  exact Go_icmp_same d_L_law_771 (K _ hI)
theorem law_film (hL : G.2.2.2.2.2.2.2.1 ≤ 3072) (hi : 0 ≤ i ∧ i + 6 ≤ (G.2.2.2.2.2.2.2.1 : Int)) (hI : INV S) (K : ∀ S2, INV S2 → Go G k_L_law 1041 (LvL G i) [] S2 PT) : Go G k_L_law 776 (LvL G i) [] S PT := by
  have hC := hI.1
  have hB := hC.1
  have hW := hC.2.1
  have hN := hW.1
  have hr := hN.1
  have h5 := hN.2.2.2.2.2.2.1
  have h6 := hN.2.2.2.2.2.2.2
  have hu := hI.u
  have hSh := hI.2.2.2.2.1
  have hSk := hI.2.2.2.2.2
  have hT : TOk (S 17 0) (S 17 1 0) := by have := hI.2.2.2.1; rw [this.1, this.2.1]; exact this.2.2
  have hlo : ∀ r k : Int, (0 ≤ r ∧ r < S 22 0 6) → 0 ≤ k → k < rof (S 22 0) r 1 (S 22 0 5).toNat → 0 ≤ lout (S 22 0) r k (S 22 0 5).toNat ∧ lout (S 22 0) r k (S 22 0 5).toNat < S 22 0 5 := by
    intro r k a b d
    have h1 := (hB.2.2.2.2.2 r k a.1 a.2 b d).2.1
    have h2 := lout_rg (S 22 0) r k (S 22 0 5).toNat
    omega
  unfold LvL

  refine Go_aload d_L_law_776 lg1 ⟨_, rfl⟩ ?_
  refine Go_aload d_L_law_777 lg0 ⟨_, rfl⟩ ?_
  refine Go_iload d_L_law_778 lg3 ?_
  refine Go_const d_L_law_779 ?_
  refine Go_iadd d_L_law_780 ?_
  refine Go_sld rfl d_L_law_781 hL (by omega) ?_
  refine Go_aload d_L_law_782 lg0 ⟨_, rfl⟩ ?_
  refine Go_iload d_L_law_783 lg3 ?_
  refine Go_const d_L_law_784 ?_
  refine Go_iadd d_L_law_785 ?_
  refine Go_sld rfl d_L_law_786 hL (by omega) ?_
  refine Go_aload d_L_law_787 lg0 ⟨_, rfl⟩ ?_
  refine Go_iload d_L_law_788 lg3 ?_
  refine Go_const d_L_law_789 ?_
  refine Go_iadd d_L_law_790 ?_
  refine Go_sld rfl d_L_law_791 hL (by omega) ?_
  refine Go_aload d_L_law_792 lg0 ⟨_, rfl⟩ ?_
  refine Go_iload d_L_law_793 lg3 ?_
  refine Go_const d_L_law_794 ?_
  refine Go_iadd d_L_law_795 ?_
  refine Go_sld rfl d_L_law_796 hL (by omega) ?_
  refine Go_V4i d_L_law_797 kX (c_X_film _ _ _ _ (i32_rg _) (i32_rg _) (i32_rg _) (i32_rg _) hSh hB hW) (Nat.le_of_ble_eq_true rfl) ?_
  rintro z S1 q1
  have e22 : S1 22 = S 22 := by
    rcases q1 with ⟨-, -, rfl⟩ | ⟨-, -, -, rfl⟩ | ⟨-, -, -, -, hF⟩
    · rfl
    · rfl
    · exact hF 22 (by decide)
  refine Go_aload d_L_law_800 lg2 ⟨_, rfl⟩ ?_
  refine Go_aload d_L_law_801 lg0 ⟨_, rfl⟩ ?_
  refine Go_iload d_L_law_802 lg3 ?_
  refine Go_const d_L_law_803 ?_
  refine Go_iadd d_L_law_804 ?_
  refine Go_sld rfl d_L_law_805 hL (by omega) ?_
  refine Go_aload d_L_law_806 lg0 ⟨_, rfl⟩ ?_
  refine Go_iload d_L_law_807 lg3 ?_
  refine Go_const d_L_law_808 ?_
  refine Go_iadd d_L_law_809 ?_
  refine Go_sld rfl d_L_law_810 hL (by omega) ?_
  refine Go_aload d_L_law_811 lg0 ⟨_, rfl⟩ ?_
  refine Go_iload d_L_law_812 lg3 ?_
  refine Go_const d_L_law_813 ?_
  refine Go_iadd d_L_law_814 ?_
  refine Go_sld rfl d_L_law_815 hL (by omega) ?_
  refine Go_aload d_L_law_816 lg0 ⟨_, rfl⟩ ?_
  refine Go_iload d_L_law_817 lg3 ?_
  refine Go_const d_L_law_818 ?_
  refine Go_iadd d_L_law_819 ?_
  refine Go_sld rfl d_L_law_820 hL (by omega) ?_
  refine Go_V4i d_L_law_821 kM (c_M_film _ _ _ _ (i32_rg _) (i32_rg _) (i32_rg _) (i32_rg _) (hSk.fr (by rw [e22]) (by rw [e22]) (by rw [e22])) (by rw [e22]; exact hN) (by rw [e22]; exact hlo _)) (Nat.le_of_ble_eq_true rfl) ?_
  rintro z2 S2 q2
  rw [e22] at q2
  obtain ⟨rfl, hJ⟩ := L_film (LR_film hr hSk.2 _ _ _) hI q1 q2
  exact Go_icmp_same d_L_law_824 (K _ hJ)
theorem law_sheet (hL : G.2.2.2.2.2.2.2.1 ≤ 3072) (hi : 0 ≤ i ∧ i + 6 ≤ (G.2.2.2.2.2.2.2.1 : Int)) (hI : INV S) (K : ∀ S2, INV S2 → Go G k_L_law 1041 (LvL G i) [] S2 PT) : Go G k_L_law 829 (LvL G i) [] S PT := by
  have hC := hI.1
  have hB := hC.1
  have hW := hC.2.1
  have hN := hW.1
  have hr := hN.1
  have h5 := hN.2.2.2.2.2.2.1
  have h6 := hN.2.2.2.2.2.2.2
  have hu := hI.u
  have hSh := hI.2.2.2.2.1
  have hSk := hI.2.2.2.2.2
  have hT : TOk (S 17 0) (S 17 1 0) := by have := hI.2.2.2.1; rw [this.1, this.2.1]; exact this.2.2
  have hlo : ∀ r k : Int, (0 ≤ r ∧ r < S 22 0 6) → 0 ≤ k → k < rof (S 22 0) r 1 (S 22 0 5).toNat → 0 ≤ lout (S 22 0) r k (S 22 0 5).toNat ∧ lout (S 22 0) r k (S 22 0 5).toNat < S 22 0 5 := by
    intro r k a b d
    have h1 := (hB.2.2.2.2.2 r k a.1 a.2 b d).2.1
    have h2 := lout_rg (S 22 0) r k (S 22 0 5).toNat
    omega
  unfold LvL

  refine Go_aload d_L_law_829 lg1 ⟨_, rfl⟩ ?_
  refine Go_aload d_L_law_830 lg0 ⟨_, rfl⟩ ?_
  refine Go_iload d_L_law_831 lg3 ?_
  refine Go_const d_L_law_832 ?_
  refine Go_iadd d_L_law_833 ?_
  refine Go_sld rfl d_L_law_834 hL (by omega) ?_
  refine Go_aload d_L_law_835 lg0 ⟨_, rfl⟩ ?_
  refine Go_iload d_L_law_836 lg3 ?_
  refine Go_const d_L_law_837 ?_
  refine Go_iadd d_L_law_838 ?_
  refine Go_sld rfl d_L_law_839 hL (by omega) ?_
  refine Go_aload d_L_law_840 lg0 ⟨_, rfl⟩ ?_
  refine Go_iload d_L_law_841 lg3 ?_
  refine Go_const d_L_law_842 ?_
  refine Go_iadd d_L_law_843 ?_
  refine Go_sld rfl d_L_law_844 hL (by omega) ?_
  refine Go_V3i d_L_law_845 kX (c_X_sheet _ _ _ (i32_rg _) (i32_rg _) (i32_rg _) hSh) (Nat.le_of_ble_eq_true rfl) ?_
  rintro z S1 q1
  have e22 : S1 22 = S 22 := by
    rcases q1 with ⟨-, -, rfl⟩ | ⟨-, -, -, rfl⟩ | ⟨-, -, -, -, hF⟩
    · rfl
    · rfl
    · exact hF 22 (by decide)
  refine Go_aload d_L_law_848 lg2 ⟨_, rfl⟩ ?_
  refine Go_aload d_L_law_849 lg0 ⟨_, rfl⟩ ?_
  refine Go_iload d_L_law_850 lg3 ?_
  refine Go_const d_L_law_851 ?_
  refine Go_iadd d_L_law_852 ?_
  refine Go_sld rfl d_L_law_853 hL (by omega) ?_
  refine Go_aload d_L_law_854 lg0 ⟨_, rfl⟩ ?_
  refine Go_iload d_L_law_855 lg3 ?_
  refine Go_const d_L_law_856 ?_
  refine Go_iadd d_L_law_857 ?_
  refine Go_sld rfl d_L_law_858 hL (by omega) ?_
  refine Go_aload d_L_law_859 lg0 ⟨_, rfl⟩ ?_
  refine Go_iload d_L_law_860 lg3 ?_
  refine Go_const d_L_law_861 ?_
  refine Go_iadd d_L_law_862 ?_
  refine Go_sld rfl d_L_law_863 hL (by omega) ?_
  refine Go_V3i d_L_law_864 kM (c_M_sheet _ _ _ (i32_rg _) (i32_rg _) (i32_rg _) ) (Nat.le_of_ble_eq_true rfl) ?_
  rintro z2 S2 q2
  obtain ⟨rfl, hJ⟩ := L_sheet hI q1 q2
  exact Go_icmp_same d_L_law_867 (K _ hJ)
theorem law_drop (hL : G.2.2.2.2.2.2.2.1 ≤ 3072) (hi : 0 ≤ i ∧ i + 6 ≤ (G.2.2.2.2.2.2.2.1 : Int)) (hI : INV S) (K : ∀ S2, INV S2 → Go G k_L_law 1041 (LvL G i) [] S2 PT) : Go G k_L_law 872 (LvL G i) [] S PT := by
  have hC := hI.1
  have hB := hC.1
  have hW := hC.2.1
  have hN := hW.1
  have hr := hN.1
  have h5 := hN.2.2.2.2.2.2.1
  have h6 := hN.2.2.2.2.2.2.2
  have hu := hI.u
  have hSh := hI.2.2.2.2.1
  have hSk := hI.2.2.2.2.2
  have hT : TOk (S 17 0) (S 17 1 0) := by have := hI.2.2.2.1; rw [this.1, this.2.1]; exact this.2.2
  have hlo : ∀ r k : Int, (0 ≤ r ∧ r < S 22 0 6) → 0 ≤ k → k < rof (S 22 0) r 1 (S 22 0 5).toNat → 0 ≤ lout (S 22 0) r k (S 22 0 5).toNat ∧ lout (S 22 0) r k (S 22 0 5).toNat < S 22 0 5 := by
    intro r k a b d
    have h1 := (hB.2.2.2.2.2 r k a.1 a.2 b d).2.1
    have h2 := lout_rg (S 22 0) r k (S 22 0 5).toNat
    omega
  unfold LvL

  refine Go_aload d_L_law_872 lg1 ⟨_, rfl⟩ ?_
  refine Go_aload d_L_law_873 lg0 ⟨_, rfl⟩ ?_
  refine Go_iload d_L_law_874 lg3 ?_
  refine Go_const d_L_law_875 ?_
  refine Go_iadd d_L_law_876 ?_
  refine Go_sld rfl d_L_law_877 hL (by omega) ?_
  refine Go_V1i d_L_law_878 kX (c_X_drop _ (i32_rg _) hSh) (Nat.le_of_ble_eq_true rfl) ?_
  rintro z S1 q1
  have e22 : S1 22 = S 22 := by
    rcases q1 with ⟨-, -, rfl⟩ | ⟨-, -, -, rfl⟩ | ⟨-, -, -, -, hF⟩
    · rfl
    · rfl
    · exact hF 22 (by decide)
  refine Go_aload d_L_law_881 lg2 ⟨_, rfl⟩ ?_
  refine Go_aload d_L_law_882 lg0 ⟨_, rfl⟩ ?_
  refine Go_iload d_L_law_883 lg3 ?_
  refine Go_const d_L_law_884 ?_
  refine Go_iadd d_L_law_885 ?_
  refine Go_sld rfl d_L_law_886 hL (by omega) ?_
  refine Go_V1i d_L_law_887 kM (c_M_drop _ (i32_rg _) (hSk.fr (by rw [e22]) (by rw [e22]) (by rw [e22]))) (Nat.le_of_ble_eq_true rfl) ?_
  rintro z2 S2 q2
  obtain ⟨rfl, hJ⟩ := L_drop hI q1 q2
  exact Go_icmp_same d_L_law_890 (K _ hJ)
theorem law_item (hL : G.2.2.2.2.2.2.2.1 ≤ 3072) (hi : 0 ≤ i ∧ i + 6 ≤ (G.2.2.2.2.2.2.2.1 : Int)) (hI : INV S) (K : ∀ S2, INV S2 → Go G k_L_law 1041 (LvL G i) [] S2 PT) : Go G k_L_law 895 (LvL G i) [] S PT := by
  have hC := hI.1
  have hB := hC.1
  have hW := hC.2.1
  have hN := hW.1
  have hr := hN.1
  have h5 := hN.2.2.2.2.2.2.1
  have h6 := hN.2.2.2.2.2.2.2
  have hu := hI.u
  have hSh := hI.2.2.2.2.1
  have hSk := hI.2.2.2.2.2
  have hT : TOk (S 17 0) (S 17 1 0) := by have := hI.2.2.2.1; rw [this.1, this.2.1]; exact this.2.2
  have hlo : ∀ r k : Int, (0 ≤ r ∧ r < S 22 0 6) → 0 ≤ k → k < rof (S 22 0) r 1 (S 22 0 5).toNat → 0 ≤ lout (S 22 0) r k (S 22 0 5).toNat ∧ lout (S 22 0) r k (S 22 0 5).toNat < S 22 0 5 := by
    intro r k a b d
    have h1 := (hB.2.2.2.2.2 r k a.1 a.2 b d).2.1
    have h2 := lout_rg (S 22 0) r k (S 22 0 5).toNat
    omega
  unfold LvL

  refine Go_aload d_L_law_895 lg1 ⟨_, rfl⟩ ?_
  refine Go_aload d_L_law_896 lg0 ⟨_, rfl⟩ ?_
  refine Go_iload d_L_law_897 lg3 ?_
  refine Go_const d_L_law_898 ?_
  refine Go_iadd d_L_law_899 ?_
  refine Go_sld rfl d_L_law_900 hL (by omega) ?_
  refine Go_aload d_L_law_901 lg0 ⟨_, rfl⟩ ?_
  refine Go_iload d_L_law_902 lg3 ?_
  refine Go_const d_L_law_903 ?_
  refine Go_iadd d_L_law_904 ?_
  refine Go_sld rfl d_L_law_905 hL (by omega) ?_
  refine Go_aload d_L_law_906 lg0 ⟨_, rfl⟩ ?_
  refine Go_iload d_L_law_907 lg3 ?_
  refine Go_const d_L_law_908 ?_
  refine Go_iadd d_L_law_909 ?_
  refine Go_sld rfl d_L_law_910 hL (by omega) ?_
  refine Go_aload d_L_law_911 lg0 ⟨_, rfl⟩ ?_
  refine Go_iload d_L_law_912 lg3 ?_
  refine Go_const d_L_law_913 ?_
  refine Go_iadd d_L_law_914 ?_
  refine Go_sld rfl d_L_law_915 hL (by omega) ?_
  refine Go_i2l d_L_law_916 ((i32_rg _)) ?_
  refine Go_const d_L_law_917 ?_
  refine Go_lshl d_L_law_919 ?_
  refine Go_aload d_L_law_920 lg0 ⟨_, rfl⟩ ?_
  refine Go_iload d_L_law_921 lg3 ?_
  refine Go_const d_L_law_922 ?_
  refine Go_iadd d_L_law_923 ?_
  refine Go_sld rfl d_L_law_924 hL (by omega) ?_
  refine Go_i2l d_L_law_925 ((i32_rg _)) ?_
  refine Go_lconst d_L_law_926 ?_
  refine Go_land d_L_law_929 ?_
  refine Go_lor d_L_law_930 ?_
  refine Go_V4i d_L_law_931 kX (c_X_item _ _ _ _ (i32_rg _) (i32_rg _) (i32_rg _) (i64_rg _) hSh) (Nat.le_of_ble_eq_true rfl) ?_
  rintro z S1 q1
  have e22 : S1 22 = S 22 := by
    rcases q1 with ⟨-, -, rfl⟩ | ⟨-, -, -, rfl⟩ | ⟨-, -, -, -, hF⟩
    · rfl
    · rfl
    · exact hF 22 (by decide)
  refine Go_aload d_L_law_934 lg2 ⟨_, rfl⟩ ?_
  refine Go_aload d_L_law_935 lg0 ⟨_, rfl⟩ ?_
  refine Go_iload d_L_law_936 lg3 ?_
  refine Go_const d_L_law_937 ?_
  refine Go_iadd d_L_law_938 ?_
  refine Go_sld rfl d_L_law_939 hL (by omega) ?_
  refine Go_aload d_L_law_940 lg0 ⟨_, rfl⟩ ?_
  refine Go_iload d_L_law_941 lg3 ?_
  refine Go_const d_L_law_942 ?_
  refine Go_iadd d_L_law_943 ?_
  refine Go_sld rfl d_L_law_944 hL (by omega) ?_
  refine Go_aload d_L_law_945 lg0 ⟨_, rfl⟩ ?_
  refine Go_iload d_L_law_946 lg3 ?_
  refine Go_const d_L_law_947 ?_
  refine Go_iadd d_L_law_948 ?_
  refine Go_sld rfl d_L_law_949 hL (by omega) ?_
  refine Go_aload d_L_law_950 lg0 ⟨_, rfl⟩ ?_
  refine Go_iload d_L_law_951 lg3 ?_
  refine Go_const d_L_law_952 ?_
  refine Go_iadd d_L_law_953 ?_
  refine Go_sld rfl d_L_law_954 hL (by omega) ?_
  refine Go_i2l d_L_law_955 ((i32_rg _)) ?_
  refine Go_const d_L_law_956 ?_
  refine Go_lshl d_L_law_958 ?_
  refine Go_aload d_L_law_959 lg0 ⟨_, rfl⟩ ?_
  refine Go_iload d_L_law_960 lg3 ?_
  refine Go_const d_L_law_961 ?_
  refine Go_iadd d_L_law_962 ?_
  refine Go_sld rfl d_L_law_963 hL (by omega) ?_
  refine Go_i2l d_L_law_964 ((i32_rg _)) ?_
  refine Go_lconst d_L_law_965 ?_
  refine Go_land d_L_law_968 ?_
  refine Go_lor d_L_law_969 ?_
  refine Go_V4i d_L_law_970 kM (c_M_item _ _ _ _ (i32_rg _) (i32_rg _) (i32_rg _) (i64_rg _) (hSk.fr (by rw [e22]) (by rw [e22]) (by rw [e22]))) (Nat.le_of_ble_eq_true rfl) ?_
  rintro z2 S2 q2
  obtain ⟨rfl, hJ⟩ := L_item (i64_rg _) hI q1 q2
  exact Go_icmp_same d_L_law_973 (K _ hJ)
theorem law_copy (hL : G.2.2.2.2.2.2.2.1 ≤ 3072) (hi : 0 ≤ i ∧ i + 6 ≤ (G.2.2.2.2.2.2.2.1 : Int)) (hI : INV S) (K : ∀ S2, INV S2 → Go G k_L_law 1041 (LvL G i) [] S2 PT) : Go G k_L_law 978 (LvL G i) [] S PT := by
  have hC := hI.1
  have hB := hC.1
  have hW := hC.2.1
  have hN := hW.1
  have hr := hN.1
  have h5 := hN.2.2.2.2.2.2.1
  have h6 := hN.2.2.2.2.2.2.2
  have hu := hI.u
  have hSh := hI.2.2.2.2.1
  have hSk := hI.2.2.2.2.2
  have hT : TOk (S 17 0) (S 17 1 0) := by have := hI.2.2.2.1; rw [this.1, this.2.1]; exact this.2.2
  have hlo : ∀ r k : Int, (0 ≤ r ∧ r < S 22 0 6) → 0 ≤ k → k < rof (S 22 0) r 1 (S 22 0 5).toNat → 0 ≤ lout (S 22 0) r k (S 22 0 5).toNat ∧ lout (S 22 0) r k (S 22 0 5).toNat < S 22 0 5 := by
    intro r k a b d
    have h1 := (hB.2.2.2.2.2 r k a.1 a.2 b d).2.1
    have h2 := lout_rg (S 22 0) r k (S 22 0 5).toNat
    omega
  unfold LvL

  refine Go_aload d_L_law_978 lg1 ⟨_, rfl⟩ ?_
  refine Go_aload d_L_law_979 lg0 ⟨_, rfl⟩ ?_
  refine Go_iload d_L_law_980 lg3 ?_
  refine Go_const d_L_law_981 ?_
  refine Go_iadd d_L_law_982 ?_
  refine Go_sld rfl d_L_law_983 hL (by omega) ?_
  refine Go_aload d_L_law_984 lg0 ⟨_, rfl⟩ ?_
  refine Go_iload d_L_law_985 lg3 ?_
  refine Go_const d_L_law_986 ?_
  refine Go_iadd d_L_law_987 ?_
  refine Go_sld rfl d_L_law_988 hL (by omega) ?_
  refine Go_aload d_L_law_989 lg0 ⟨_, rfl⟩ ?_
  refine Go_iload d_L_law_990 lg3 ?_
  refine Go_const d_L_law_991 ?_
  refine Go_iadd d_L_law_992 ?_
  refine Go_sld rfl d_L_law_993 hL (by omega) ?_
  refine Go_aload d_L_law_994 lg0 ⟨_, rfl⟩ ?_
  refine Go_iload d_L_law_995 lg3 ?_
  refine Go_const d_L_law_996 ?_
  refine Go_iadd d_L_law_997 ?_
  refine Go_sld rfl d_L_law_998 hL (by omega) ?_
  refine Go_aload d_L_law_999 lg0 ⟨_, rfl⟩ ?_
  refine Go_iload d_L_law_1000 lg3 ?_
  refine Go_const d_L_law_1001 ?_
  refine Go_iadd d_L_law_1002 ?_
  refine Go_sld rfl d_L_law_1003 hL (by omega) ?_
  refine Go_V5i d_L_law_1004 kX (c_X_copy _ _ _ _ _ (i32_rg _) (i32_rg _) (i32_rg _) (i32_rg _) (i32_rg _) hSh) (Nat.le_of_ble_eq_true rfl) ?_
  rintro z S1 q1
  have e22 : S1 22 = S 22 := by
    rcases q1 with ⟨-, ⟨-, rfl⟩ | ⟨-, -, hF⟩⟩
    · rfl
    · exact hF 22 (by decide)
  refine Go_aload d_L_law_1007 lg2 ⟨_, rfl⟩ ?_
  refine Go_aload d_L_law_1008 lg0 ⟨_, rfl⟩ ?_
  refine Go_iload d_L_law_1009 lg3 ?_
  refine Go_const d_L_law_1010 ?_
  refine Go_iadd d_L_law_1011 ?_
  refine Go_sld rfl d_L_law_1012 hL (by omega) ?_
  refine Go_aload d_L_law_1013 lg0 ⟨_, rfl⟩ ?_
  refine Go_iload d_L_law_1014 lg3 ?_
  refine Go_const d_L_law_1015 ?_
  refine Go_iadd d_L_law_1016 ?_
  refine Go_sld rfl d_L_law_1017 hL (by omega) ?_
  refine Go_aload d_L_law_1018 lg0 ⟨_, rfl⟩ ?_
  refine Go_iload d_L_law_1019 lg3 ?_
  refine Go_const d_L_law_1020 ?_
  refine Go_iadd d_L_law_1021 ?_
  refine Go_sld rfl d_L_law_1022 hL (by omega) ?_
  refine Go_aload d_L_law_1023 lg0 ⟨_, rfl⟩ ?_
  refine Go_iload d_L_law_1024 lg3 ?_
  refine Go_const d_L_law_1025 ?_
  refine Go_iadd d_L_law_1026 ?_
  refine Go_sld rfl d_L_law_1027 hL (by omega) ?_
  refine Go_aload d_L_law_1028 lg0 ⟨_, rfl⟩ ?_
  refine Go_iload d_L_law_1029 lg3 ?_
  refine Go_const d_L_law_1030 ?_
  refine Go_iadd d_L_law_1031 ?_
  refine Go_sld rfl d_L_law_1032 hL (by omega) ?_
  refine Go_V5i d_L_law_1033 kM (c_M_copy _ _ _ _ _ (i32_rg _) (i32_rg _) (i32_rg _) (i32_rg _) (i32_rg _) (hSk.fr (by rw [e22]) (by rw [e22]) (by rw [e22]))) (Nat.le_of_ble_eq_true rfl) ?_
  rintro z2 S2 q2
  obtain ⟨rfl, hJ⟩ := L_copy hI q1 q2
  exact Go_icmp_same d_L_law_1036 (K _ hJ)
theorem law_loop (hL : G.2.2.2.2.2.2.2.1 ≤ 3072) : ∀ (n : Nat) (i : Int) (S : St), (G.2.2.2.2.2.2.2.1 : Int) - i ≤ (n : Int) → 0 ≤ i → i ≤ (G.2.2.2.2.2.2.2.1 : Int) → INV S → Go G k_L_law 18 (LvL G i) [] S PT := by
  intro n
  induction n using Nat.strongRecOn with
  | ind n ih =>
    intro i S hn h0 h1 hI
    have K : i + 6 ≤ (G.2.2.2.2.2.2.2.1 : Int) → ∀ S2, INV S2 → Go G k_L_law 1041 (LvL G i) [] S2 PT := by
      intro h6 S2 hJ
      unfold LvL

      refine Go_iinc d_L_law_1041 lg3 rfl sa3 ?_
      refine Go_goto d_L_law_1044 ?_
      exact ih (n - 1) (by omega) (i + 6) S2 (by omega) (by omega) (by omega) hJ
    unfold LvL at ⊢
    refine Go_iload d_L_law_18 lg3 ?_
    refine Go_aload d_L_law_19 lg0 ⟨_, rfl⟩ ?_
    refine Go_slen rfl d_L_law_20 ?_
    refine Go_const d_L_law_21 ?_
    refine Go_isub d_L_law_23 ?_
    refine Go_icmp_gt d_L_law_24 (by omega) (by omega) (fun h24 => ?_) (fun h24 => ?_)
    · refine Go_const d_L_law_1047 ?_
      exact Go_zret d_L_law_1048 (by decide) rfl
    · refine Go_aload d_L_law_27 lg0 ⟨_, rfl⟩ ?_
      refine Go_iload d_L_law_28 lg3 ?_
      refine Go_sld rfl d_L_law_29 hL (by omega) ?_
      refine Go_const d_L_law_30 ?_
      refine Go_and31 d_L_law_32 ?_
      have hwr : 0 ≤ (G.2.2.2.2.2.2.2.2 i.toNat).toInt % 32 ∧ (G.2.2.2.2.2.2.2.2 i.toNat).toInt % 32 < 32 := by omega
      have h6 : i + 6 ≤ (G.2.2.2.2.2.2.2.1 : Int) := by omega
      have K6 := K h6
      generalize (G.2.2.2.2.2.2.2.2 i.toNat).toInt % 32 = w at hwr ⊢
      have hsw : w = 0 ∨ w = 1 ∨ w = 2 ∨ w = 3 ∨ w = 4 ∨ w = 5 ∨ w = 6 ∨ w = 7 ∨ w = 8 ∨ w = 9 ∨ w = 10 ∨ w = 11 ∨ w = 12 ∨ w = 13 ∨ w = 14 ∨ w = 15 ∨ w = 16 ∨ w = 17 ∨ w = 18 ∨ w = 19 ∨ w = 20 ∨ w = 21 ∨ w = 22 ∨ w = 23 ∨ w = 24 ∨ w = 25 ∨ w = 26 ∨ (w < 0 ∨ 26 < w) := by omega
      rcases hsw with rfl | rfl | rfl | rfl | rfl | rfl | rfl | rfl | rfl | rfl | rfl | rfl | rfl | rfl | rfl | rfl | rfl | rfl | rfl | rfl | rfl | rfl | rfl | rfl | rfl | rfl | rfl | hsw
      · exact Go_tswIn (t := 156) d_L_law_33 (by decide) (by decide) (by decide) rfl (by decide) (law_come hL ⟨h0, h6⟩ hI K6)
      · exact Go_tswIn (t := 189) d_L_law_33 (by decide) (by decide) (by decide) rfl (by decide) (law_tick hL ⟨h0, h6⟩ hI K6)
      · exact Go_tswIn (t := 202) d_L_law_33 (by decide) (by decide) (by decide) rfl (by decide) (law_tell hL ⟨h0, h6⟩ hI K6)
      · exact Go_tswIn (t := 235) d_L_law_33 (by decide) (by decide) (by decide) rfl (by decide) (law_begin hL ⟨h0, h6⟩ hI K6)
      · exact Go_tswIn (t := 248) d_L_law_33 (by decide) (by decide) (by decide) rfl (by decide) (law_letter hL ⟨h0, h6⟩ hI K6)
      · exact Go_tswIn (t := 281) d_L_law_33 (by decide) (by decide) (by decide) rfl (by decide) (law_inside hL ⟨h0, h6⟩ hI K6)
      · exact Go_tswIn (t := 304) d_L_law_33 (by decide) (by decide) (by decide) rfl (by decide) (law_round hL ⟨h0, h6⟩ hI K6)
      · exact Go_tswIn (t := 337) d_L_law_33 (by decide) (by decide) (by decide) rfl (by decide) (law_out hL ⟨h0, h6⟩ hI K6)
      · exact Go_tswIn (t := 380) d_L_law_33 (by decide) (by decide) (by decide) rfl (by decide) (law_count hL ⟨h0, h6⟩ hI K6)
      · exact Go_tswIn (t := 403) d_L_law_33 (by decide) (by decide) (by decide) rfl (by decide) (law_chance hL ⟨h0, h6⟩ hI K6)
      · exact Go_tswIn (t := 457) d_L_law_33 (by decide) (by decide) (by decide) rfl (by decide) (law_sender hL ⟨h0, h6⟩ hI K6)
      · exact Go_tswIn (t := 511) d_L_law_33 (by decide) (by decide) (by decide) rfl (by decide) (law_stays hL ⟨h0, h6⟩ hI K6)
      · exact Go_tswIn (t := 545) d_L_law_33 (by decide) (by decide) (by decide) rfl (by decide) (law_expected hL ⟨h0, h6⟩ hI K6)
      · exact Go_tswIn (t := 589) d_L_law_33 (by decide) (by decide) (by decide) rfl (by decide) (law_blend hL ⟨h0, h6⟩ hI K6)
      · exact Go_tswIn (t := 602) d_L_law_33 (by decide) (by decide) (by decide) rfl (by decide) (law_type hL ⟨h0, h6⟩ hI K6)
      · exact Go_tswIn (t := 625) d_L_law_33 (by decide) (by decide) (by decide) rfl (by decide) (law_read hL ⟨h0, h6⟩ hI K6)
      · exact Go_tswIn (t := 638) d_L_law_33 (by decide) (by decide) (by decide) rfl (by decide) (law_drift hL ⟨h0, h6⟩ hI K6)
      · exact Go_tswIn (t := 661) d_L_law_33 (by decide) (by decide) (by decide) rfl (by decide) (law_undo hL ⟨h0, h6⟩ hI K6)
      · exact Go_tswIn (t := 674) d_L_law_33 (by decide) (by decide) (by decide) rfl (by decide) (law_seed hL ⟨h0, h6⟩ hI K6)
      · exact Go_tswIn (t := 697) d_L_law_33 (by decide) (by decide) (by decide) rfl (by decide) (law_image hL ⟨h0, h6⟩ hI K6)
      · exact Go_tswIn (t := 710) d_L_law_33 (by decide) (by decide) (by decide) rfl (by decide) (law_restore hL ⟨h0, h6⟩ hI K6)
      · exact Go_tswIn (t := 723) d_L_law_33 (by decide) (by decide) (by decide) rfl (by decide) (law_fits hL ⟨h0, h6⟩ hI K6)
      · exact Go_tswIn (t := 776) d_L_law_33 (by decide) (by decide) (by decide) rfl (by decide) (law_film hL ⟨h0, h6⟩ hI K6)
      · exact Go_tswIn (t := 829) d_L_law_33 (by decide) (by decide) (by decide) rfl (by decide) (law_sheet hL ⟨h0, h6⟩ hI K6)
      · exact Go_tswIn (t := 872) d_L_law_33 (by decide) (by decide) (by decide) rfl (by decide) (law_drop hL ⟨h0, h6⟩ hI K6)
      · exact Go_tswIn (t := 895) d_L_law_33 (by decide) (by decide) (by decide) rfl (by decide) (law_item hL ⟨h0, h6⟩ hI K6)
      · exact Go_tswIn (t := 978) d_L_law_33 (by decide) (by decide) (by decide) rfl (by decide) (law_copy hL ⟨h0, h6⟩ hI K6)
      · exact Go_tswOut (t := 1041) d_L_law_33 (by omega) hsw (by decide) (K6 _ hI)
end Law
