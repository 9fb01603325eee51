/-! ===== the class's sheets tell the rows ===== -/
def LR (A : Row) : Prop := ∀ k : Nat, -9223372036854775808 ≤ A k ∧ A k < 9223372036854775808
def CSh (S : St) (LN SZ IT : Row) : Prop := LR IT ∧ ∀ s : Nat, s < 4 → (-1 ≤ LN s ∧ LN s ≤ 3) ∧ (0 ≤ S (18 + s) 1 0 ∧ S (18 + s) 1 0 ≤ 24) ∧ S (18 + s) 0 0 = LN s ∧ (0 ≤ LN s → S (18 + s) 1 0 = SZ s ∧ ∀ i : Nat, i < 24 → S (18 + s) 2 i = IT (24 * s + i))
def FrS (S S1 : St) : Prop := ∀ c, ¬ (18 ≤ c ∧ c ≤ 21) → S1 c = S c
theorem rf_0 (k : Nat) : rf 0 k = 18 + k := rfl
theorem CSh.fr {S S1 : St} {LN SZ IT : Row} (h : CSh S LN SZ IT) (hf : ∀ c, 18 ≤ c → c ≤ 21 → S1 c = S c) : CSh S1 LN SZ IT := by
  refine ⟨h.1, fun s hs => ?_⟩
  rw [hf (18 + s) (by omega) (by omega)]
  exact h.2 s hs
theorem CSh.put {S S1 : St} {LN SZ IT LN' SZ' IT' : Row} {t : Nat} (h : CSh S LN SZ IT) (hf : ∀ c, c ≠ 18 + t → S1 c = S c) (ho : ∀ k : Nat, k ≠ t → k < 4 → LN' k = LN k ∧ SZ' k = SZ k ∧ ∀ i : Nat, i < 24 → IT' (24 * k + i) = IT (24 * k + i)) (hr : LR IT')
    (hn : (-1 ≤ LN' t ∧ LN' t ≤ 3) ∧ (0 ≤ S1 (18 + t) 1 0 ∧ S1 (18 + t) 1 0 ≤ 24) ∧ S1 (18 + t) 0 0 = LN' t ∧ (0 ≤ LN' t → S1 (18 + t) 1 0 = SZ' t ∧ ∀ i : Nat, i < 24 → S1 (18 + t) 2 i = IT' (24 * t + i))) : CSh S1 LN' SZ' IT' := by
  refine ⟨hr, fun s hs => ?_⟩
  by_cases e : s = t
  · subst e; exact hn
  · obtain ⟨a, b, d⟩ := ho s e hs
    obtain ⟨z1, z2, z3, z4⟩ := h.2 s hs
    rw [hf (18 + s) (by omega), a, b]
    exact ⟨z1, z2, z3, fun q => ⟨(z4 q).1, fun i hi => by rw [d i hi]; exact (z4 q).2 i hi⟩⟩
theorem why_flt {S : St} {LN SZ IT : Row} {s l i n : Int} (h : CSh S LN SZ IT) (hs : 0 ≤ s ∧ s ≤ 3) (hn : 0 ≤ n) : fltV (S (18 + s.toNat) 0 0) (S (18 + s.toNat) 1 0) l i n = whyV LN SZ s l i n := by
  obtain ⟨z1, z2, z3, z4⟩ := h.2 s.toNat (by omega)
  unfold fltV whyV
  rw [z3]
  by_cases hm : LN s.toNat = -1
  · rw [if_pos hm, if_pos (by omega)]
  · obtain ⟨y1, y2⟩ := z4 (by omega)
    rw [if_neg hm, if_neg (by omega : ¬ LN s.toNat < 0), y1]
    split
    · rfl
    · split <;> split <;> omega
theorem w8_s {v : Int} (h : 0 ≤ v ∧ v ≤ 7) : w8 v = v := by
  unfold w8
  rcases (show v = 0 ∨ v = 1 ∨ v = 2 ∨ v = 3 ∨ v = 4 ∨ v = 5 ∨ v = 6 ∨ v = 7 by omega) with rfl | rfl | rfl | rfl | rfl | rfl | rfl | rfl <;> decide
theorem w16_s {v : Int} (h : 0 ≤ v ∧ v ≤ 7) : w16 v = v := by
  unfold w16
  rcases (show v = 0 ∨ v = 1 ∨ v = 2 ∨ v = 3 ∨ v = 4 ∨ v = 5 ∨ v = 6 ∨ v = 7 by omega) with rfl | rfl | rfl | rfl | rfl | rfl | rfl | rfl <;> decide
theorem w32_s {v : Int} (h : 0 ≤ v ∧ v ≤ 7) : w32 v = v := by unfold w32; exact iI_toInt (by omega)
theorem cutV_s {v l : Int} (h : 0 ≤ v ∧ v ≤ 7) : cutV v l = v := by unfold cutV; rw [w8_s h, w16_s h, w32_s h]; (repeat' split) <;> rfl
theorem ltr_lv {N : Row} {p j : Int} (h : NR N) (hp : 0 ≤ p ∧ p ≤ 3) (hj : 0 ≤ j) : stL N p j = (if 0 < lvV N p False (j + 1) then j + 1 + N 3 - lvV N p False (j + 1) else j + 1, lvV N p False (j + 1)) := by
  obtain ⟨-, i0, i1, i2, i3, i4, i5, i6⟩ := id h
  unfold stL lvV
  by_cases hb : begP N p False (j + 1)
  · have hg : 0 < shr N p (j + 1 + N 3) := by
      unfold begP at hb
      unfold shr
      rcases (show p = 0 ∨ p = 1 ∨ p = 2 ∨ p = 3 by omega) with rfl | rfl | rfl | rfl <;> simp at hb ⊢ <;> omega
    rw [cif_pos hb, cif_pos hb, if_pos hg]
    congr 1; omega
  · rw [cif_neg hb, cif_neg hb, if_neg (by decide)]
theorem stT_lv {N : Row} {p j : Int} (h : NR N) (hp : 0 ≤ p ∧ p ≤ 3) (hj : 0 ≤ j) : stT N p j = (if 0 < lvV N p True j then j + N 3 - lvV N p True j else j, lvV N p True j) := by
  obtain ⟨-, i0, i1, i2, i3, i4, i5, i6⟩ := id h
  unfold stT lvV
  by_cases hb : begP N p True j
  · have hg : 0 < shr N p (j + N 3) := by
      unfold begP at hb
      unfold shr
      rcases (show p = 0 ∨ p = 1 ∨ p = 2 ∨ p = 3 by omega) with rfl | rfl | rfl | rfl <;> simp at hb ⊢ <;> omega
    rw [cif_pos hb, cif_pos hb, if_pos hg]
    congr 1; omega
  · rw [cif_neg hb, cif_neg hb, if_neg (by decide)]
theorem soF_ext {N : Row} {p : Int} {IT IT' : Row} {a a' : Nat} : ∀ n : Nat, (∀ k : Nat, k < n → IT' (a' + 2 * k) = IT (a + 2 * k) ∧ IT' (a' + 2 * k + 1) = IT (a + 2 * k + 1)) → soF N p IT' a' n = soF N p IT a n := by
  intro n
  induction n with
  | zero => intro _; rfl
  | succ n ih =>
    intro h
    have e := ih (fun k hk => h k (by omega))
    obtain ⟨h1, h2⟩ := h n (by omega)
    simp only [soF]
    rw [e, h1, h2]
theorem setF_ext {N : Row} {IT IT' : Row} {a a' n : Nat} (h : ∀ k : Nat, k < n → IT' (a' + 2 * k) = IT (a + 2 * k) ∧ IT' (a' + 2 * k + 1) = IT (a + 2 * k + 1)) : ∀ q, setF N IT' a' n q = setF N IT a n q := by
  intro q
  induction q with
  | zero => rfl
  | succ q ih => simp only [setF]; rw [ih, soF_ext n h]
section XSheet
variable {G : GT} {S : St} {N LN SZ IT : Row}
theorem c_X_isSheet (s : Int) (hs : -2147483648 ≤ s ∧ s < 2147483648) : Fn G k_X_isSheet [vI s] S (PV (vI (bI (0 ≤ s ∧ s ≤ 3))) S) := by
  refine Fn.of [some (vI s)] 0 rfl (by decide +kernel) rfl (Nat.le_of_ble_eq_true rfl) (by decide) ?_
  refine Go_iload d_X_isSheet_0 lg0 ?_
  refine Go_const d_X_isSheet_1 ?_
  refine Go_const d_X_isSheet_2 ?_
  refine Go_S3p d_X_isSheet_3 (c_X_within _ _ _ (by omega) (by omega) (by omega)) (Nat.le_of_ble_eq_true rfl) ?_
  exact Go_zretV d_X_isSheet_6 (by first | exact Or.inl rfl | exact Or.inr rfl | exact @bI_01 _ _) (by first | rfl | exact (bI_pos (by omega)).symm | exact (bI_neg (by omega)).symm)
theorem c_X_isLane (s : Int) (hs : -2147483648 ≤ s ∧ s < 2147483648) : Fn G k_X_isLane [vI s] S (PV (vI (bI (0 ≤ s ∧ s ≤ 3))) S) := by
  refine Fn.of [some (vI s)] 0 rfl (by decide +kernel) rfl (Nat.le_of_ble_eq_true rfl) (by decide) ?_
  refine Go_iload d_X_isLane_0 lg0 ?_
  refine Go_const d_X_isLane_1 ?_
  refine Go_const d_X_isLane_2 ?_
  refine Go_S3p d_X_isLane_3 (c_X_within _ _ _ (by omega) (by omega) (by omega)) (Nat.le_of_ble_eq_true rfl) ?_
  exact Go_zretV d_X_isLane_6 (by first | exact Or.inl rfl | exact Or.inr rfl | exact @bI_01 _ _) (by first | rfl | exact (bI_pos (by omega)).symm | exact (bI_neg (by omega)).symm)
theorem c_X_sheet (s l n : Int) (hs : -2147483648 ≤ s ∧ s < 2147483648) (hl : -2147483648 ≤ l ∧ l < 2147483648) (hn : -2147483648 ≤ n ∧ n < 2147483648) (hS : CSh S LN SZ IT) : Fn G k_X_sheet [oR G 0, vI s, vI l, vI n] S (PI (fun z S1 => (¬ ((0 ≤ s ∧ s ≤ 3) ∧ (0 ≤ l ∧ l ≤ 3) ∧ n ≤ 24) ∧ z = -1 ∧ S1 = S) ∨ (((0 ≤ s ∧ s ≤ 3) ∧ (0 ≤ l ∧ l ≤ 3) ∧ n ≤ 24) ∧ n < 0 ∧ z = -14 ∧ S1 = S) ∨ (((0 ≤ s ∧ s ≤ 3) ∧ (0 ≤ l ∧ l ≤ 3) ∧ n ≤ 24) ∧ 0 ≤ n ∧ z = n ∧ CSh S1 (up LN s.toNat l) (up SZ s.toNat n) (zeroR IT (24 * s).toNat 24) ∧ FrS S S1))) := by
  refine Fn.of [some (oR G 0), some (vI s), some (vI l), some (vI n)] 0 rfl (by decide +kernel) rfl (Nat.le_of_ble_eq_true rfl) (by decide) ?_
  refine Go_iload d_X_sheet_0 lg1 ?_
  refine Go_S1p d_X_sheet_1 (c_X_isSheet _ (by omega)) (Nat.le_of_ble_eq_true rfl) ?_
  refine Go_ifeq_d d_X_sheet_4 (fun h4 => ?_) (fun h4 => ?_)
  · refine Go_const d_X_sheet_20 ?_
    exact Go_iretI d_X_sheet_21 (Or.inl ⟨by omega, rfl, rfl⟩)
  · refine Go_iload d_X_sheet_7 lg2 ?_
    refine Go_S1p d_X_sheet_8 (c_X_isLane _ (by omega)) (Nat.le_of_ble_eq_true rfl) ?_
    refine Go_ifeq_d d_X_sheet_11 (fun h11 => ?_) (fun h11 => ?_)
    · refine Go_const d_X_sheet_20 ?_
      exact Go_iretI d_X_sheet_21 (Or.inl ⟨by omega, rfl, rfl⟩)
    · refine Go_iload d_X_sheet_14 lg3 ?_
      refine Go_const d_X_sheet_15 ?_
      refine Go_icmp_le d_X_sheet_17 (by omega) (by omega) (fun h17 => ?_) (fun h17 => ?_)
      · refine Go_iload d_X_sheet_22 lg3 ?_
        refine Go_if_ge d_X_sheet_23 (by omega) (fun h23 => ?_) (fun h23 => ?_)
        · refine Go_aload d_X_sheet_29 lg0 ⟨_, rfl⟩ ?_
          refine Go_get d_X_sheet_30 fx_6 ?_
          refine Go_iload d_X_sheet_33 lg1 ?_
          refine Go_aald d_X_sheet_34 aax (by omega) ?_
          rw [rf_0]
          have hcs : 18 ≤ 18 + s.toNat ∧ 18 + s.toNat ≤ 21 := by omega
          obtain ⟨z1, z2, z3, z4⟩ := hS.2 s.toNat (by omega)
          have hst : ((s.toNat : Nat) : Int) = s := by omega
          refine Go_iload d_X_sheet_35 lg2 ?_
          refine Go_iload d_X_sheet_36 lg3 ?_
          refine Go_V2n d_X_sheet_37 (kH (by first | assumption | decide | omega)) (c_H_renew _ _ hcs) (Nat.le_of_ble_eq_true rfl) ?_
          rintro S1 rfl
          refine Go_iload d_X_sheet_40 lg3 ?_
          refine Go_iretI d_X_sheet_41 (Or.inr (Or.inr ⟨by omega, by omega, rfl, ?_, fun c hc => sB_c (by omega)⟩))
          refine hS.put (t := s.toNat) (fun c hc => sB_c hc) (fun k k1 k2 => ⟨up_n k1, up_n k1, fun i hi => ?_⟩) (fun k => ?_) ?_
          · unfold zeroR; rw [if_neg (by omega)]
          · unfold zeroR; split
            · decide
            · exact hS.1 k
          · rw [sB_s, up_s, up_s]
            refine ⟨by omega, ?_, ?_, fun _ => ⟨?_, fun i hi => ?_⟩⟩
            · rw [if_neg (by decide), if_pos rfl, up_s]; omega
            · rw [if_pos rfl, up_s]
            · rw [if_neg (by decide), if_pos rfl, up_s]
            · rw [if_neg (by decide), if_neg (by decide), if_pos rfl]; unfold zeroR; rw [if_pos (by omega), if_pos (by omega)]
        · refine Go_const d_X_sheet_26 ?_
          exact Go_iretI d_X_sheet_28 (Or.inr (Or.inl ⟨by omega, by omega, rfl, rfl⟩))
      · refine Go_const d_X_sheet_20 ?_
        exact Go_iretI d_X_sheet_21 (Or.inl ⟨by omega, rfl, rfl⟩)
theorem c_X_drop (s : Int) (hs : -2147483648 ≤ s ∧ s < 2147483648) (hS : CSh S LN SZ IT) : Fn G k_X_drop [oR G 0, vI s] S (PI (fun z S1 => (¬ (0 ≤ s ∧ s ≤ 3) ∧ z = -1 ∧ S1 = S) ∨ ((0 ≤ s ∧ s ≤ 3) ∧ LN s.toNat < 0 ∧ z = -11 ∧ S1 = S) ∨ ((0 ≤ s ∧ s ≤ 3) ∧ 0 ≤ LN s.toNat ∧ z = SZ s.toNat ∧ CSh S1 (up LN s.toNat (-1)) SZ IT ∧ FrS S S1))) := by
  refine Fn.of [some (oR G 0), some (vI s), none, none] 2 rfl (by decide +kernel) rfl (Nat.le_of_ble_eq_true rfl) (by decide) ?_
  refine Go_iload d_X_drop_0 lg1 ?_
  refine Go_S1p d_X_drop_1 (c_X_isSheet _ (by omega)) (Nat.le_of_ble_eq_true rfl) ?_
  refine Go_ifne_d d_X_drop_4 (fun h4 => ?_) (fun h4 => ?_)
  · refine Go_aload d_X_drop_9 lg0 ⟨_, rfl⟩ ?_
    refine Go_get d_X_drop_10 fx_6 ?_
    refine Go_iload d_X_drop_13 lg1 ?_
    refine Go_aald d_X_drop_14 aax (by omega) ?_
    rw [rf_0]
    have hcs : 18 ≤ 18 + s.toNat ∧ 18 + s.toNat ≤ 21 := by omega
    obtain ⟨z1, z2, z3, z4⟩ := hS.2 s.toNat (by omega)
    have hst : ((s.toNat : Nat) : Int) = s := by omega
    refine Go_astore d_X_drop_15 ⟨_, rfl⟩ rfl sa2 ?_
    refine Go_aload d_X_drop_16 lg2 ⟨_, rfl⟩ ?_
    refine Go_V0p d_X_drop_17 (kH (by first | assumption | decide | omega)) (c_H_isMissing (by first | assumption | omega) (by first | assumption | omega) (by first | assumption | omega)) (Nat.le_of_ble_eq_true rfl) ?_
    refine Go_ifeq_d d_X_drop_20 (fun h20 => ?_) (fun h20 => ?_)
    · refine Go_aload d_X_drop_26 lg2 ⟨_, rfl⟩ ?_
      refine Go_get d_X_drop_27 (fh_1 (by first | assumption | decide | omega)) ?_
      refine Go_istore d_X_drop_30 rfl sa3 ?_
      refine Go_aload d_X_drop_31 lg2 ⟨_, rfl⟩ ?_
      refine Go_const d_X_drop_32 ?_
      refine Go_const d_X_drop_33 ?_
      refine Go_V2n d_X_drop_34 (kH (by first | assumption | decide | omega)) (c_H_renew _ _ hcs) (Nat.le_of_ble_eq_true rfl) ?_
      rintro S1 rfl
      refine Go_iload d_X_drop_37 lg3 ?_
      refine Go_iretI d_X_drop_38 (Or.inr (Or.inr ⟨by omega, by omega, (z4 (by omega)).1, ?_, fun c hc => sB_c (by omega)⟩))
      refine hS.put (t := s.toNat) (fun c hc => sB_c hc) (fun k k1 k2 => ⟨up_n k1, rfl, fun i hi => rfl⟩) hS.1 ?_
      rw [sB_s, up_s]
      refine ⟨by omega, ?_, ?_, fun q => absurd q (by decide)⟩
      · rw [if_neg (by decide), if_pos rfl, up_s]; omega
      · rw [if_pos rfl, up_s]
    · refine Go_const d_X_drop_23 ?_
      exact Go_iretI d_X_drop_25 (Or.inr (Or.inl ⟨by omega, by omega, rfl, rfl⟩))
  · refine Go_const d_X_drop_7 ?_
    exact Go_iretI d_X_drop_8 (Or.inl ⟨by omega, rfl, rfl⟩)
theorem c_X_item (s l i v : Int) (hs : -2147483648 ≤ s ∧ s < 2147483648) (hl : -2147483648 ≤ l ∧ l < 2147483648) (hi : -2147483648 ≤ i ∧ i < 2147483648) (hv : -9223372036854775808 ≤ v ∧ v < 9223372036854775808) (hS : CSh S LN SZ IT) : Fn G k_X_item [oR G 0, vI s, vI l, vI i, vL v] S (PI (fun z S1 => (¬ ((0 ≤ s ∧ s ≤ 3) ∧ 0 ≤ l ∧ l ≤ 3) ∧ z = -1 ∧ S1 = S) ∨ (((0 ≤ s ∧ s ≤ 3) ∧ 0 ≤ l ∧ l ≤ 3) ∧ whyV LN SZ s l i 1 < 0 ∧ z = whyV LN SZ s l i 1 ∧ S1 = S) ∨ (((0 ≤ s ∧ s ≤ 3) ∧ 0 ≤ l ∧ l ≤ 3) ∧ 0 ≤ whyV LN SZ s l i 1 ∧ z = 1 ∧ CSh S1 LN SZ (up IT (24 * s + i).toNat (cutV v l)) ∧ FrS S S1))) := by
  have hwc := whyV_c LN SZ s l i 1
  refine Fn.of [some (oR G 0), some (vI s), some (vI l), some (vI i), some (vL v), none, none, none] 2 rfl (by decide +kernel) rfl (Nat.le_of_ble_eq_true rfl) (by decide) ?_
  refine Go_iload d_X_item_0 lg1 ?_
  refine Go_S1p d_X_item_1 (c_X_isSheet _ (by omega)) (Nat.le_of_ble_eq_true rfl) ?_
  refine Go_ifeq_d d_X_item_4 (fun h4 => ?_) (fun h4 => ?_)
  · refine Go_const d_X_item_14 ?_
    exact Go_iretI d_X_item_15 (Or.inl ⟨by omega, rfl, rfl⟩)
  · refine Go_iload d_X_item_7 lg2 ?_
    refine Go_S1p d_X_item_8 (c_X_isLane _ (by omega)) (Nat.le_of_ble_eq_true rfl) ?_
    refine Go_ifne_d d_X_item_11 (fun h11 => ?_) (fun h11 => ?_)
    · refine Go_aload d_X_item_16 lg0 ⟨_, rfl⟩ ?_
      refine Go_get d_X_item_17 fx_6 ?_
      refine Go_iload d_X_item_20 lg1 ?_
      refine Go_aald d_X_item_21 aax (by omega) ?_
      rw [rf_0]
      have hcs : 18 ≤ 18 + s.toNat ∧ 18 + s.toNat ≤ 21 := by omega
      obtain ⟨z1, z2, z3, z4⟩ := hS.2 s.toNat (by omega)
      have hst : ((s.toNat : Nat) : Int) = s := by omega
      refine Go_astore d_X_item_22 ⟨_, rfl⟩ rfl sa6 ?_
      refine Go_aload d_X_item_24 lg6 ⟨_, rfl⟩ ?_
      refine Go_iload d_X_item_26 lg2 ?_
      refine Go_iload d_X_item_27 lg3 ?_
      refine Go_const d_X_item_28 ?_
      refine Go_V3p d_X_item_29 (kH (by first | assumption | decide | omega)) (c_H_fault _ _ _ (by omega) (by omega) (by omega) (by first | assumption | omega) (by first | assumption | omega) (by first | assumption | omega)) (Nat.le_of_ble_eq_true rfl) ?_
      rw [why_flt hS (by omega) (by decide)]
      refine Go_istore d_X_item_32 rfl sa7 ?_
      refine Go_iload d_X_item_34 lg7 ?_
      refine Go_if_eq d_X_item_36 (by omega) (fun h36 => ?_) (fun h36 => ?_)
      · obtain ⟨y1, y2, y3, y4⟩ := whyV_0 (show 0 ≤ whyV LN SZ s l i 1 by omega)
        obtain ⟨x1, x2⟩ := z4 (by omega)
        refine Go_aload d_X_item_42 lg6 ⟨_, rfl⟩ ?_
        refine Go_iload d_X_item_44 lg3 ?_
        refine Go_lload d_X_item_45 lg4 ?_
        refine Go_V2n d_X_item_47 (kH (by first | assumption | decide | omega)) (c_H_put _ _ (by omega) (by omega) (by omega) hcs (by omega) (by omega)) (Nat.le_of_ble_eq_true rfl) ?_
        rintro S1 rfl
        refine Go_const d_X_item_50 ?_
        refine Go_iretI d_X_item_51 (Or.inr (Or.inr ⟨by omega, by omega, rfl, ?_, fun c hc => by rw [st3_sB, sB_c (by omega)]⟩))
        rw [st3_sB]
        refine hS.put (t := s.toNat) (fun c hc => sB_c hc) (fun k k1 k2 => ⟨rfl, rfl, fun i hi => up_n (by omega)⟩) (fun k => ?_) ?_
        · unfold up; split
          · exact cutV_rg hv
          · exact hS.1 k
        · rw [sB_s]
          refine ⟨z1, by rw [ub_j (by decide)]; exact z2, by rw [ub_j (by decide)]; exact z3, fun q => ⟨by rw [ub_j (by decide)]; exact x1, fun k hk => ?_⟩⟩
          unfold ub up
          by_cases e : k = i.toNat
          · rw [if_pos ⟨rfl, e⟩, if_pos (by omega), z3, show LN s.toNat = l by omega]
          · rw [if_neg (fun q => e q.2), if_neg (by omega)]; exact x2 k hk
      · refine Go_iload d_X_item_39 lg7 ?_
        exact Go_iretI d_X_item_41 (Or.inr (Or.inl ⟨by omega, by omega, rfl, rfl⟩))
    · refine Go_const d_X_item_14 ?_
      exact Go_iretI d_X_item_15 (Or.inl ⟨by omega, rfl, rfl⟩)
theorem c_X_copy (a i b j n : Int) (ha : -2147483648 ≤ a ∧ a < 2147483648) (hi : -2147483648 ≤ i ∧ i < 2147483648) (hb : -2147483648 ≤ b ∧ b < 2147483648) (hj : -2147483648 ≤ j ∧ j < 2147483648) (hn : -2147483648 ≤ n ∧ n < 2147483648) (hS : CSh S LN SZ IT) : Fn G k_X_copy [oR G 0, vI a, vI i, vI b, vI j, vI n] S (PI (fun z S1 => z = copyV LN SZ a i b j n ∧ ((z < 0 ∧ S1 = S) ∨ (0 ≤ z ∧ CSh S1 LN SZ (cpR IT (fun k => IT ((24 * a + i).toNat + k)) (24 * b + j).toNat n.toNat) ∧ FrS S S1)))) := by
  refine Fn.of [some (oR G 0), some (vI a), some (vI i), some (vI b), some (vI j), some (vI n), none, none] 2 rfl (by decide +kernel) rfl (Nat.le_of_ble_eq_true rfl) (by decide) ?_
  refine Go_iload d_X_copy_0 lg1 ?_
  refine Go_S1p d_X_copy_1 (c_X_isSheet _ (by omega)) (Nat.le_of_ble_eq_true rfl) ?_
  refine Go_ifeq_d d_X_copy_4 (fun h4 => ?_) (fun h4 => ?_)
  · refine Go_const d_X_copy_14 ?_
    exact Go_iretI d_X_copy_15 ⟨by unfold copyV; rw [if_pos (by omega)], Or.inl ⟨by decide, rfl⟩⟩
  · refine Go_iload d_X_copy_7 lg3 ?_
    refine Go_S1p d_X_copy_8 (c_X_isSheet _ (by omega)) (Nat.le_of_ble_eq_true rfl) ?_
    refine Go_ifne_d d_X_copy_11 (fun h11 => ?_) (fun h11 => ?_)
    · refine Go_aload d_X_copy_16 lg0 ⟨_, rfl⟩ ?_
      refine Go_get d_X_copy_17 fx_6 ?_
      refine Go_iload d_X_copy_20 lg1 ?_
      refine Go_aald d_X_copy_21 aax (by omega) ?_
      rw [rf_0]
      have hca : 18 ≤ 18 + a.toNat ∧ 18 + a.toNat ≤ 21 := by omega
      obtain ⟨y1, y2, y3, y4⟩ := hS.2 a.toNat (by omega)
      refine Go_astore d_X_copy_22 ⟨_, rfl⟩ rfl sa6 ?_
      refine Go_aload d_X_copy_24 lg0 ⟨_, rfl⟩ ?_
      refine Go_get d_X_copy_25 fx_6 ?_
      refine Go_iload d_X_copy_28 lg3 ?_
      refine Go_aald d_X_copy_29 aax (by omega) ?_
      rw [rf_0]
      have hcb : 18 ≤ 18 + b.toNat ∧ 18 + b.toNat ≤ 21 := by omega
      obtain ⟨z1, z2, z3, z4⟩ := hS.2 b.toNat (by omega)
      refine Go_astore d_X_copy_30 ⟨_, rfl⟩ rfl sa7 ?_
      refine Go_aload d_X_copy_32 lg6 ⟨_, rfl⟩ ?_
      refine Go_V0p d_X_copy_34 (kH (by first | assumption | decide | omega)) (c_H_isMissing hca (by omega) (by omega)) (Nat.le_of_ble_eq_true rfl) ?_
      refine Go_ifne_d d_X_copy_37 (fun h37 => ?_) (fun h37 => ?_)
      · refine Go_const d_X_copy_48 ?_
        exact Go_iretI d_X_copy_50 ⟨by unfold copyV; rw [if_neg (by omega), if_pos (by omega)], Or.inl ⟨by decide, rfl⟩⟩
      · refine Go_aload d_X_copy_40 lg7 ⟨_, rfl⟩ ?_
        refine Go_V0p d_X_copy_42 (kH (by first | assumption | decide | omega)) (c_H_isMissing hcb (by omega) (by omega)) (Nat.le_of_ble_eq_true rfl) ?_
        refine Go_ifeq_d d_X_copy_45 (fun h45 => ?_) (fun h45 => ?_)
        · refine Go_aload d_X_copy_51 lg6 ⟨_, rfl⟩ ?_
          refine Go_get d_X_copy_53 (fh_0 (by first | assumption | decide | omega)) ?_
          refine Go_aload d_X_copy_56 lg7 ⟨_, rfl⟩ ?_
          refine Go_get d_X_copy_58 (fh_0 (by first | assumption | decide | omega)) ?_
          refine Go_icmp_eq d_X_copy_61 (by omega) (by omega) (fun h61 => ?_) (fun h61 => ?_)
          · refine Go_aload d_X_copy_67 lg6 ⟨_, rfl⟩ ?_
            refine Go_iload d_X_copy_69 lg2 ?_
            refine Go_iload d_X_copy_70 lg5 ?_
            refine Go_V2p d_X_copy_72 (kH (by first | assumption | decide | omega)) (c_H_holds _ _ (by omega) (by omega) hca (by omega) (by omega)) (Nat.le_of_ble_eq_true rfl) ?_
            refine Go_ifeq_d d_X_copy_75 (fun h75 => ?_) (fun h75 => ?_)
            · refine Go_const d_X_copy_90 ?_
              have y5 := y4 (by omega)
              have z5 := z4 (by omega)
              exact Go_iretI d_X_copy_92 ⟨by unfold copyV; rw [if_neg (by omega), if_neg (by omega), if_neg (by omega), if_pos (by omega)], Or.inl ⟨by decide, rfl⟩⟩
            · refine Go_aload d_X_copy_78 lg7 ⟨_, rfl⟩ ?_
              refine Go_iload d_X_copy_80 lg4 ?_
              refine Go_iload d_X_copy_82 lg5 ?_
              refine Go_V2p d_X_copy_84 (kH (by first | assumption | decide | omega)) (c_H_holds _ _ (by omega) (by omega) hcb (by omega) (by omega)) (Nat.le_of_ble_eq_true rfl) ?_
              refine Go_ifne_d d_X_copy_87 (fun h87 => ?_) (fun h87 => ?_)
              · refine Go_aload d_X_copy_93 lg6 ⟨_, rfl⟩ ?_
                refine Go_get d_X_copy_95 (fh_2 (by first | assumption | decide | omega)) ?_
                refine Go_iload d_X_copy_98 lg2 ?_
                refine Go_aload d_X_copy_99 lg7 ⟨_, rfl⟩ ?_
                refine Go_get d_X_copy_101 (fh_2 (by first | assumption | decide | omega)) ?_
                refine Go_iload d_X_copy_104 lg4 ?_
                refine Go_iload d_X_copy_106 lg5 ?_
                refine Go_copyL d_X_copy_108 (ah_2 hca) (ah_2 hcb) (by omega) (by omega) (by omega) (by omega) (by omega) (Nat.le_of_ble_eq_true rfl) ?_
                refine Go_iload d_X_copy_111 lg5 ?_
                have y5 := y4 (by omega)
                have z5 := z4 (by omega)
                refine Go_iretI d_X_copy_113 ⟨by unfold copyV; rw [if_neg (by omega), if_neg (by omega), if_neg (by omega), if_neg (by omega)], Or.inr ⟨by omega, ?_, fun c hc => by funext x y; unfold cpy3; rw [if_neg (by omega)]⟩⟩
                refine hS.put (t := b.toNat) (fun c hc => by funext x y; unfold cpy3; rw [if_neg (by omega)]) (fun k k1 k2 => ⟨rfl, rfl, fun x hx => by unfold cpR; rw [if_neg (by omega)]⟩) (fun k => ?_) ?_
                · unfold cpR; split
                  · exact hS.1 _
                  · exact hS.1 k
                · refine ⟨z1, ?_, ?_, fun q => ⟨?_, fun k hk => ?_⟩⟩
                  · unfold cpy3; rw [if_neg (by omega)]; exact z2
                  · unfold cpy3; rw [if_neg (by omega)]; exact z3
                  · unfold cpy3; rw [if_neg (by omega)]; exact z5.1
                  · unfold cpy3 cpR
                    by_cases e : j.toNat ≤ k ∧ k < j.toNat + n.toNat
                    · rw [if_pos (by omega), if_pos (by omega), y5.2 _ (by omega)]
                      congr 1; omega
                    · rw [if_neg (by omega), if_neg (by omega)]; exact z5.2 k hk
              · refine Go_const d_X_copy_90 ?_
                have y5 := y4 (by omega)
                have z5 := z4 (by omega)
                exact Go_iretI d_X_copy_92 ⟨by unfold copyV; rw [if_neg (by omega), if_neg (by omega), if_neg (by omega), if_pos (by omega)], Or.inl ⟨by decide, rfl⟩⟩
          · refine Go_const d_X_copy_64 ?_
            exact Go_iretI d_X_copy_66 ⟨by unfold copyV; rw [if_neg (by omega), if_neg (by omega), if_pos (by omega)], Or.inl ⟨by decide, rfl⟩⟩
        · refine Go_const d_X_copy_48 ?_
          exact Go_iretI d_X_copy_50 ⟨by unfold copyV; rw [if_neg (by omega), if_pos (by omega)], Or.inl ⟨by decide, rfl⟩⟩
    · refine Go_const d_X_copy_14 ?_
      exact Go_iretI d_X_copy_15 ⟨by unfold copyV; rw [if_pos (by omega)], Or.inl ⟨by decide, rfl⟩⟩
theorem c_X_staying (x y : Int) (hx : 0 ≤ x ∧ x ≤ 1000) (hy : 0 ≤ y ∧ y ≤ 1000) (hB : BR (S 1) N) (hN : NR N) : Fn G k_X_staying [oR G 0, vI x, vI y] S (PV (vI (if 0 < y then x + N 3 - y else x)) S) := by
  have t3 := hB.1 3 (by decide)
  refine Fn.of [some (oR G 0), some (vI x), some (vI y)] 0 rfl (by decide +kernel) rfl (Nat.le_of_ble_eq_true rfl) (by decide) ?_
  refine Go_iload d_X_staying_0 lg2 ?_
  refine Go_if_le d_X_staying_1 (by omega) (fun h1 => ?_) (fun h1 => ?_)
  · refine Go_iload d_X_staying_20 lg1 ?_
    first
      | exact Go_iretV d_X_staying_21 (by rw [if_pos (by omega)])
      | exact Go_iretV d_X_staying_21 (by rw [if_neg (by omega)])
  · refine Go_iload d_X_staying_4 lg1 ?_
    refine Go_aload d_X_staying_5 lg0 ⟨_, rfl⟩ ?_
    refine Go_get d_X_staying_6 fx_0 ?_
    refine Go_get d_X_staying_9 (fb_0 (by first | assumption | decide | omega)) ?_
    refine Go_const d_X_staying_12 ?_
    refine Go_ialdC (k0 := 3) d_X_staying_13 (ab_0 (by first | assumption | decide | omega)) rfl (by decide) ?_
    rw [t3]
    refine Go_iadd d_X_staying_14 ?_
    refine Go_iload d_X_staying_15 lg2 ?_
    refine Go_isub d_X_staying_16 ?_
    refine Go_goto d_X_staying_17 ?_
    first
      | exact Go_iretV d_X_staying_21 (by rw [if_pos (by omega)])
      | exact Go_iretV d_X_staying_21 (by rw [if_neg (by omega)])
set_option maxHeartbeats 4000000 in
theorem c_X_fitsPolicy {c : Nat} (a n p : Int) (hp : 0 ≤ p ∧ p ≤ 3) (ha : 0 ≤ a) (hn : 0 ≤ n ∧ n ≤ 8) (han : a + 2 * n ≤ S c 1 0) (hI : ∀ k : Nat, (k : Int) < n → (0 ≤ S c 2 (a.toNat + 2 * k) ∧ S c 2 (a.toNat + 2 * k) ≤ 9) ∧ (0 ≤ S c 2 (a.toNat + 2 * k + 1) ∧ S c 2 (a.toNat + 2 * k + 1) ≤ 40)) (hc : 18 ≤ c ∧ c ≤ 21) (hl : -1 ≤ S c 0 0 ∧ S c 0 0 ≤ 3) (hz : 0 ≤ S c 1 0 ∧ S c 1 0 ≤ 24) (hB : BR (S 1) N) (h : NR N) : Fn G k_X_fitsPolicy [oR G 0, oR G c, vI a, vI n, vI p] S (PV (vI (bI ((soF N p (S c 2) a.toNat n.toNat).isSome = true))) S) := by
  obtain ⟨hr, i0, i1, i2, i3, i4, i5, i6⟩ := id h
  have hT := hB.1
  refine Fn.of [some (oR G 0), some (oR G c), some (vI a), some (vI n), some (vI p), none, none, none, none, none, none, none] 7 rfl (by decide +kernel) rfl (Nat.le_of_ble_eq_true rfl) (by decide) ?_

  have outer := loopI (fun k => ∀ i, soF N p (S c 2) a.toNat k.toNat = some i → Go G k_X_fitsPolicy 6 [some (oR G 0), some (oR G c), some (vI a), some (vI n), some (vI p), some (vI i), some (vI k), none, none, none, none, none] [] S (PV (vI (bI ((soF N p (S c 2) a.toNat n.toNat).isSome = true))) S)) n ?_ ?_
  refine Go_const d_X_fitsPolicy_0 ?_
  refine Go_istore d_X_fitsPolicy_1 rfl sa5 ?_
  refine Go_const d_X_fitsPolicy_3 ?_
  refine Go_istore d_X_fitsPolicy_4 rfl sa6 ?_
  exact outer 0 (by omega) (by omega) 0 rfl
  · intro i hi
    refine Go_iload d_X_fitsPolicy_6 lg6 ?_
    refine Go_iload d_X_fitsPolicy_8 lg3 ?_
    refine Go_icmp_ge d_X_fitsPolicy_9 (by omega) (by omega) (fun h9 => ?_) (fun h9 => absurd h9 (by omega))
    refine Go_const d_X_fitsPolicy_159 ?_
    exact Go_zretV d_X_fitsPolicy_160 (by decide) (by rw [hi]; rfl)
  · intro k h0 h1 ih i hi
    have hir := soF_rg h hp k.toNat i (by omega) hi
    obtain ⟨c1, c2⟩ := hI k.toNat (by omega)
    have ea : (a + 2 * k).toNat = a.toNat + 2 * k.toNat := by omega
    have eb : (a + 2 * k + 1).toNat = a.toNat + 2 * k.toNat + 1 := by omega
    have dead : soF N p (S c 2) a.toNat (k + 1).toNat = none → (0 : Int) = bI ((soF N p (S c 2) a.toNat n.toNat).isSome = true) := by
      intro hq
      have := soF_z hq (n - (k + 1)).toNat
      rw [show (k + 1).toNat + (n - (k + 1)).toNat = n.toNat by omega] at this
      rw [this]
      rfl
    have inner := loopI (fun b => ∀ j g, ltr N p b.toNat i = some (j, g) → Go G k_X_fitsPolicy 30 [some (oR G 0), some (oR G c), some (vI a), some (vI n), some (vI p), some (vI j), some (vI k), some (vL (S c 2 (a.toNat + 2 * k.toNat))), none, some (vI g), some (vI b), none] [] S (PV (vI (bI ((soF N p (S c 2) a.toNat n.toNat).isSome = true))) S)) (S c 2 (a.toNat + 2 * k.toNat)) ?_ ?_
    refine Go_iload d_X_fitsPolicy_6 lg6 ?_
    refine Go_iload d_X_fitsPolicy_8 lg3 ?_
    refine Go_icmp_ge d_X_fitsPolicy_9 (by omega) (by omega) (fun h9 => absurd h9 (by omega)) (fun h9 => ?_)
    refine Go_aload d_X_fitsPolicy_12 lg1 ⟨_, rfl⟩ ?_
    refine Go_iload d_X_fitsPolicy_13 lg2 ?_
    refine Go_const d_X_fitsPolicy_14 ?_
    refine Go_iload d_X_fitsPolicy_15 lg6 ?_
    refine Go_imul d_X_fitsPolicy_17 ?_
    refine Go_iadd d_X_fitsPolicy_18 ?_
    refine Go_V1p d_X_fitsPolicy_19 (kH (by first | assumption | decide | omega)) (c_H_at (a + 2 * k) (by omega) hc hl hz) (Nat.le_of_ble_eq_true rfl) ?_
    rw [ea]
    refine Go_lstore d_X_fitsPolicy_22 rfl sb7 ?_
    refine Go_const d_X_fitsPolicy_24 ?_
    refine Go_istore d_X_fitsPolicy_25 rfl sa9 ?_
    refine Go_const d_X_fitsPolicy_27 ?_
    refine Go_istore d_X_fitsPolicy_28 rfl sa10 ?_
    exact inner 0 (by omega) (by omega) i 0 rfl
    · intro j g hl1
      have hjr := ltr_rg h hp (by omega) _ j g hl1
      have htr := stT_rg h hp (i := j) (by omega)
      have hST := stT_lv h hp (j := j) (by omega)
      have hS := soF_S h0 hi hl1
      rw [hST] at hS htr
      dsimp only at hS htr
      refine Go_iload d_X_fitsPolicy_30 lg10 ?_
      refine Go_i2l d_X_fitsPolicy_32 (by omega) ?_
      refine Go_lload d_X_fitsPolicy_33 lg7 ?_
      refine Go_lcmp d_X_fitsPolicy_35 (by omega) (by omega) ?_
      refine Go_ifc_ge d_X_fitsPolicy_36 (fun h36 => ?_) (fun h36 => absurd h36 (by omega))
      refine Go_iload d_X_fitsPolicy_98 lg4 ?_
      refine Go_aload d_X_fitsPolicy_100 lg0 ⟨_, rfl⟩ ?_
      refine Go_get d_X_fitsPolicy_101 fx_0 ?_
      refine Go_get d_X_fitsPolicy_104 (fb_0 (by first | assumption | decide | omega)) ?_
      refine Go_iload d_X_fitsPolicy_107 lg5 ?_
      refine Go_const d_X_fitsPolicy_109 ?_
      rw [show vI 1 = vI (bI True) from rfl]
      refine Go_S4p d_X_fitsPolicy_110 (c_B_leaving _ _ True (by decide) (by omega) (by omega) hT h) (Nat.le_of_ble_eq_true rfl) ?_
      refine Go_istore d_X_fitsPolicy_113 rfl sa10 ?_
      refine Go_aload d_X_fitsPolicy_115 lg0 ⟨_, rfl⟩ ?_
      refine Go_iload d_X_fitsPolicy_116 lg5 ?_
      refine Go_iload d_X_fitsPolicy_118 lg10 ?_
      refine Go_V2p d_X_fitsPolicy_120 kX (c_X_staying _ _ (by omega) (by omega) hB h) (Nat.le_of_ble_eq_true rfl) ?_
      refine Go_istore d_X_fitsPolicy_123 rfl sa5 ?_
      refine Go_iload d_X_fitsPolicy_125 lg9 ?_
      refine Go_iload d_X_fitsPolicy_127 lg10 ?_
      refine Go_iadd d_X_fitsPolicy_129 ?_
      refine Go_istore d_X_fitsPolicy_130 rfl sa9 ?_
      refine Go_iload d_X_fitsPolicy_132 lg9 ?_
      refine Go_i2l d_X_fitsPolicy_134 (by omega) ?_
      refine Go_aload d_X_fitsPolicy_135 lg1 ⟨_, rfl⟩ ?_
      refine Go_iload d_X_fitsPolicy_136 lg2 ?_
      refine Go_const d_X_fitsPolicy_137 ?_
      refine Go_iload d_X_fitsPolicy_138 lg6 ?_
      refine Go_imul d_X_fitsPolicy_140 ?_
      refine Go_iadd d_X_fitsPolicy_141 ?_
      refine Go_const d_X_fitsPolicy_142 ?_
      refine Go_iadd d_X_fitsPolicy_143 ?_
      refine Go_V1p d_X_fitsPolicy_144 (kH (by first | assumption | decide | omega)) (c_H_at (a + 2 * k + 1) (by omega) hc hl hz) (Nat.le_of_ble_eq_true rfl) ?_
      rw [eb]
      refine Go_lcmp d_X_fitsPolicy_147 (by omega) (by omega) ?_
      refine Go_ifc_eq d_X_fitsPolicy_148 (fun h148 => ?_) (fun h148 => ?_)
      · refine Go_iinc d_X_fitsPolicy_153 lg6 rfl sa6 ?_
        refine Go_goto d_X_fitsPolicy_156 ?_
        rw [if_pos h148] at hS
        exact fg7 (fg9 (fg10 (fg11 (ih _ hS))))
      · refine Go_const d_X_fitsPolicy_151 ?_
        exact Go_zretV d_X_fitsPolicy_152 (by decide) (dead (by rw [hS, if_neg h148]))
    · intro b hb0 hb1 ihb j g hl1
      have hjr := ltr_rg h hp (by omega) _ j g hl1
      have htr := stL_rg h hp (i := j) (by omega)
      have hST := ltr_lv h hp (j := j) (by omega)
      have hS := ltr_S hb0 hl1
      rw [hST] at hS htr
      dsimp only at hS htr
      refine Go_iload d_X_fitsPolicy_30 lg10 ?_
      refine Go_i2l d_X_fitsPolicy_32 (by omega) ?_
      refine Go_lload d_X_fitsPolicy_33 lg7 ?_
      refine Go_lcmp d_X_fitsPolicy_35 (by omega) (by omega) ?_
      refine Go_ifc_ge d_X_fitsPolicy_36 (fun h36 => absurd h36 (by omega)) (fun h36 => ?_)
      refine Go_iload d_X_fitsPolicy_39 lg10 ?_
      refine Go_const d_X_fitsPolicy_41 ?_
      refine Go_icmp_ge d_X_fitsPolicy_43 (by omega) (by omega) (fun h43 => absurd h43 (by omega)) (fun h43 => ?_)
      refine Go_iload d_X_fitsPolicy_46 lg5 ?_
      refine Go_const d_X_fitsPolicy_48 ?_
      refine Go_icmp_lt d_X_fitsPolicy_50 (by omega) (by omega) (fun h50 => ?_) (fun h50 => ?_)
      · refine Go_iinc d_X_fitsPolicy_55 lg5 rfl sa5 ?_
        refine Go_iload d_X_fitsPolicy_58 lg4 ?_
        refine Go_aload d_X_fitsPolicy_60 lg0 ⟨_, rfl⟩ ?_
        refine Go_get d_X_fitsPolicy_61 fx_0 ?_
        refine Go_get d_X_fitsPolicy_64 (fb_0 (by first | assumption | decide | omega)) ?_
        refine Go_iload d_X_fitsPolicy_67 lg5 ?_
        refine Go_const d_X_fitsPolicy_69 ?_
        rw [show vI 0 = vI (bI False) from rfl]
        refine Go_S4p d_X_fitsPolicy_70 (c_B_leaving _ _ False (by decide) (by omega) (by omega) hT h) (Nat.le_of_ble_eq_true rfl) ?_
        refine Go_istore d_X_fitsPolicy_73 rfl sa11 ?_
        refine Go_aload d_X_fitsPolicy_75 lg0 ⟨_, rfl⟩ ?_
        refine Go_iload d_X_fitsPolicy_76 lg5 ?_
        refine Go_iload d_X_fitsPolicy_78 lg11 ?_
        refine Go_V2p d_X_fitsPolicy_80 kX (c_X_staying _ _ (by omega) (by omega) hB h) (Nat.le_of_ble_eq_true rfl) ?_
        refine Go_istore d_X_fitsPolicy_83 rfl sa5 ?_
        refine Go_iload d_X_fitsPolicy_85 lg9 ?_
        refine Go_iload d_X_fitsPolicy_87 lg11 ?_
        refine Go_iadd d_X_fitsPolicy_89 ?_
        refine Go_istore d_X_fitsPolicy_90 rfl sa9 ?_
        refine Go_iinc d_X_fitsPolicy_92 lg10 rfl sa10 ?_
        refine Go_goto d_X_fitsPolicy_95 ?_
        rw [if_neg (by omega)] at hS
        exact fg11 (ihb _ _ hS)
      · refine Go_const d_X_fitsPolicy_53 ?_
        refine Go_zretV d_X_fitsPolicy_54 (by decide) (dead (soF_N h0 hi ?_))
        rw [if_pos (by omega)] at hS
        have := ltr_z hS (S c 2 (a.toNat + 2 * k.toNat) - (b + 1)).toNat
        rw [show (b + 1).toNat + (S c 2 (a.toNat + 2 * k.toNat) - (b + 1)).toNat = (S c 2 (a.toNat + 2 * k.toNat)).toNat by omega] at this
        exact this
theorem c_X_fits (s l i n : Int) (hs : -2147483648 ≤ s ∧ s < 2147483648) (hl : -2147483648 ≤ l ∧ l < 2147483648) (hi : -2147483648 ≤ i ∧ i < 2147483648) (hn : -2147483648 ≤ n ∧ n < 2147483648) (hS : CSh S LN SZ IT) (hB : BR (S 1) N) (hN : NR N) : Fn G k_X_fits [oR G 0, vI s, vI l, vI i, vI n] S (PV (vI (fitsV N LN SZ IT s l i n)) S) := by
  have hwc := whyV_c LN SZ s l i (2 * n)
  refine Fn.of [some (oR G 0), some (vI s), some (vI l), some (vI i), some (vI n), none, none, none, none] 4 rfl (by decide +kernel) rfl (Nat.le_of_ble_eq_true rfl) (by decide) ?_

  have loop2 := loopI (fun q => ∀ c : Nat, c = 18 + s.toNat → ((0 ≤ s ∧ s ≤ 3) ∧ (0 ≤ l ∧ l ≤ 3) ∧ 1 ≤ n ∧ n ≤ 8) → (18 ≤ c ∧ c ≤ 21) → (-1 ≤ S c 0 0 ∧ S c 0 0 ≤ 3) → (0 ≤ S c 1 0 ∧ S c 1 0 ≤ 24) → 0 ≤ i → i + 2 * n ≤ S c 1 0 → (∀ k : Nat, (k : Int) < 2 * n → itOk (S c 2) i.toNat k) → (∀ q : Nat, q ≤ 4 → setF N (S c 2) i.toNat n.toNat q = setF N IT (24 * s + i).toNat n.toNat q) → fitsV N LN SZ IT s l i n = setF N IT (24 * s + i).toNat n.toNat 4 → ∀ x, x = setF N (S c 2) i.toNat n.toNat q.toNat → Go G k_X_fits 76 [some (oR G 0), some (vI s), some (vI l), some (vI i), some (vI n), some (oR G c), some (vI 0), some (vI x), some (vI q)] [] S (PV (vI (fitsV N LN SZ IT s l i n)) S)) 4 ?_ ?_
  refine Go_iload d_X_fits_0 lg1 ?_
  refine Go_S1p d_X_fits_1 (c_X_isSheet _ (by omega)) (Nat.le_of_ble_eq_true rfl) ?_
  refine Go_ifeq_d d_X_fits_4 (fun h4 => ?_) (fun h4 => ?_)
  · refine Go_const d_X_fits_25 ?_
    exact Go_iretV d_X_fits_26 (by unfold fitsV; rw [cif_neg (by omega)])
  · refine Go_iload d_X_fits_7 lg2 ?_
    refine Go_S1p d_X_fits_8 (c_X_isLane _ (by omega)) (Nat.le_of_ble_eq_true rfl) ?_
    refine Go_ifeq_d d_X_fits_11 (fun h11 => ?_) (fun h11 => ?_)
    · refine Go_const d_X_fits_25 ?_
      exact Go_iretV d_X_fits_26 (by unfold fitsV; rw [cif_neg (by omega)])
    · refine Go_iload d_X_fits_14 lg4 ?_
      refine Go_const d_X_fits_16 ?_
      refine Go_const d_X_fits_17 ?_
      refine Go_S3p d_X_fits_19 (c_X_within _ _ _ (by omega) (by omega) (by omega)) (Nat.le_of_ble_eq_true rfl) ?_
      refine Go_ifne_d d_X_fits_22 (fun h22 => ?_) (fun h22 => ?_)
      · refine Go_aload d_X_fits_27 lg0 ⟨_, rfl⟩ ?_
        refine Go_get d_X_fits_28 fx_6 ?_
        refine Go_iload d_X_fits_31 lg1 ?_
        refine Go_aald d_X_fits_32 aax (by omega) ?_
        rw [rf_0]
        have hcs : 18 ≤ 18 + s.toNat ∧ 18 + s.toNat ≤ 21 := by omega
        obtain ⟨z1, z2, z3, z4⟩ := hS.2 s.toNat (by omega)
        have hst : ((s.toNat : Nat) : Int) = s := by omega
        refine Go_astore d_X_fits_33 ⟨_, rfl⟩ rfl sa5 ?_
        refine Go_aload d_X_fits_35 lg5 ⟨_, rfl⟩ ?_
        refine Go_iload d_X_fits_37 lg2 ?_
        refine Go_iload d_X_fits_38 lg3 ?_
        refine Go_const d_X_fits_39 ?_
        refine Go_iload d_X_fits_40 lg4 ?_
        refine Go_imul d_X_fits_42 ?_
        refine Go_V3p d_X_fits_43 (kH (by first | assumption | decide | omega)) (c_H_fault _ _ _ (by omega) (by omega) (by omega) (by first | assumption | omega) (by first | assumption | omega) (by first | assumption | omega)) (Nat.le_of_ble_eq_true rfl) ?_
        rw [why_flt hS (by omega) (by omega)]
        refine Go_istore d_X_fits_46 rfl sa6 ?_
        refine Go_iload d_X_fits_48 lg6 ?_
        refine Go_if_eq d_X_fits_50 (by omega) (fun h50 => ?_) (fun h50 => ?_)
        · obtain ⟨y1, y2, y3, y4⟩ := whyV_0 (show 0 ≤ whyV LN SZ s l i (2 * n) by omega)
          obtain ⟨x1, x2⟩ := z4 (by omega)
          have hsz : S (18 + s.toNat) 1 0 = SZ s.toNat := x1
          have hq : ∀ k : Nat, (k : Int) < 2 * n → S (18 + s.toNat) 2 (i.toNat + k) = IT ((24 * s + i).toNat + k) := fun k hk => by rw [x2 _ (by omega)]; congr 1; omega
          have hit : (∀ k : Nat, (k : Int) < 2 * n → itOk (S (18 + s.toNat) 2) i.toNat k) ↔ (∀ k : Nat, (k : Int) < 2 * n → itOk IT (24 * s + i).toNat k) := by
            constructor
            · intro hh k hk; have := hh k hk; unfold itOk at this ⊢; rw [hq k hk] at this; exact this
            · intro hh k hk; have := hh k hk; unfold itOk at this ⊢; rw [hq k hk]; exact this
          have hse : ∀ q, setF N (S (18 + s.toNat) 2) i.toNat n.toNat q = setF N IT (24 * s + i).toNat n.toNat q := setF_ext (fun k hk => by rw [hq (2 * k) (by omega)]; have := hq (2 * k + 1) (by omega); exact ⟨rfl, this⟩)
          refine Go_aload d_X_fits_56 lg5 ⟨_, rfl⟩ ?_
          refine Go_iload d_X_fits_58 lg3 ?_
          refine Go_iload d_X_fits_59 lg4 ?_
          refine Go_V2p d_X_fits_61 (kH (by first | assumption | decide | omega)) (c_H_tellsPairs _ _ (by omega) (by omega) (by omega) (fun k hk => by rw [x2 k hk]; exact hS.1 _) hcs (by omega) (by omega)) (Nat.le_of_ble_eq_true rfl) ?_
          refine Go_ifne_d d_X_fits_64 (fun h64 => ?_) (fun h64 => ?_)
          · refine Go_const d_X_fits_70 ?_
            refine Go_istore d_X_fits_71 rfl sa7 ?_
            refine Go_const d_X_fits_73 ?_
            refine Go_istore d_X_fits_74 rfl sa8 ?_
            rw [show whyV LN SZ s l i (2 * n) = 0 by omega]
            exact loop2 0 (by omega) (by omega) _ rfl (by omega) hcs (by omega) (by omega) (by omega) (by omega) h64 (fun q _ => hse q) (by unfold fitsV; rw [cif_pos (by omega), if_neg (by omega), cif_pos (hit.1 h64)]) 0 rfl
          · refine Go_const d_X_fits_67 ?_
            exact Go_iretV d_X_fits_69 (by unfold fitsV; rw [cif_pos (by omega), if_neg (by omega), cif_neg (fun q => h64 (hit.2 q))])
        · refine Go_iload d_X_fits_53 lg6 ?_
          exact Go_iretV d_X_fits_55 (by unfold fitsV; rw [cif_pos (by omega), if_pos (by omega)])
      · refine Go_const d_X_fits_25 ?_
        exact Go_iretV d_X_fits_26 (by unfold fitsV; rw [cif_neg (by omega)])
  · intro c hce o1 hc hl0 hz o2 o3 o4 o5 o6 x hx
    refine Go_iload d_X_fits_76 lg8 ?_
    refine Go_const d_X_fits_78 ?_
    refine Go_icmp_ge d_X_fits_79 (by decide) (by decide) (fun h79 => ?_) (fun h79 => absurd h79 (by decide))
    refine Go_iload d_X_fits_111 lg7 ?_
    exact Go_iretV d_X_fits_113 (by rw [o6, hx]; exact o5 4 (by decide))
  · intro q h0 h1 ih c hce o1 hc hl0 hz o2 o3 o4 o5 o6 x hx
    have hxr := setF_rg N (S c 2) i.toNat n.toNat q.toNat
    have hp2 : ((2 ^ q.toNat : Nat) : Int) ≤ 8 := by
      have : ∀ z, z < 4 → ((2 ^ z : Nat) : Int) ≤ 8 := by decide
      exact this q.toNat (by omega)
    have hp1 : (1 : Int) ≤ ((2 ^ q.toNat : Nat) : Int) := by have := Nat.pos_of_ne_zero (show 2 ^ q.toNat ≠ 0 by simp); omega
    have hI : ∀ k : Nat, (k : Int) < n → (0 ≤ S c 2 (i.toNat + 2 * k) ∧ S c 2 (i.toNat + 2 * k) ≤ 9) ∧ (0 ≤ S c 2 (i.toNat + 2 * k + 1) ∧ S c 2 (i.toNat + 2 * k + 1) ≤ 40) := by
      intro k hk
      have a1 := o4 (2 * k) (by omega)
      have a2 := o4 (2 * k + 1) (by omega)
      unfold itOk at a1 a2
      rw [if_pos (by omega)] at a1
      rw [if_neg (by omega)] at a2
      exact ⟨a1, a2⟩
    have eS : setF N (S c 2) i.toNat n.toNat (q + 1).toNat = if (soF N q (S c 2) i.toNat n.toNat).isSome then orI x ((2 ^ q.toNat : Nat) : Int) else x := by
      rw [show (q + 1).toNat = q.toNat + 1 by omega]
      show (if (soF N ((q.toNat : Nat) : Int) (S c 2) i.toNat n.toNat).isSome then orI (setF N (S c 2) i.toNat n.toNat q.toNat) ((2 ^ q.toNat : Nat) : Int) else setF N (S c 2) i.toNat n.toNat q.toNat) = _
      rw [show ((q.toNat : Nat) : Int) = q by omega, ← hx]
    refine Go_iload d_X_fits_76 lg8 ?_
    refine Go_const d_X_fits_78 ?_
    refine Go_icmp_ge d_X_fits_79 (by omega) (by omega) (fun h79 => absurd h79 (by omega)) (fun h79 => ?_)
    refine Go_aload d_X_fits_82 lg0 ⟨_, rfl⟩ ?_
    refine Go_aload d_X_fits_83 lg5 ⟨_, rfl⟩ ?_
    refine Go_iload d_X_fits_85 lg3 ?_
    refine Go_iload d_X_fits_86 lg4 ?_
    refine Go_iload d_X_fits_88 lg8 ?_
    refine Go_V4p d_X_fits_90 kX (c_X_fitsPolicy _ _ _ (by omega) (by omega) (by omega) (by omega) hI hc hl0 hz hB hN) (Nat.le_of_ble_eq_true rfl) ?_
    refine Go_ifeq_d d_X_fits_93 (fun h93 => ?_) (fun h93 => ?_)
    · refine Go_iinc d_X_fits_105 lg8 rfl sa8 ?_
      refine Go_goto d_X_fits_108 ?_
      try rw [show ((q.toNat : Nat) : Int) = q by omega]
      refine ih c hce o1 hc hl0 hz o2 o3 o4 o5 o6 _ ?_
      rw [eS]
      first
        | rw [if_pos h93]
        | rw [if_neg h93]
    · refine Go_iload d_X_fits_96 lg7 ?_
      refine Go_const d_X_fits_98 ?_
      refine Go_iload d_X_fits_99 lg8 ?_
      rw [show vI q = vI ((q.toNat : Nat) : Int) by rw [show ((q.toNat : Nat) : Int) = q by omega]]
      refine Go_shl1 d_X_fits_101 (by omega) ?_
      refine Go_ior d_X_fits_102 (by omega) (by omega) ?_
      refine Go_istore d_X_fits_103 rfl sa7 ?_
      refine Go_iinc d_X_fits_105 lg8 rfl sa8 ?_
      refine Go_goto d_X_fits_108 ?_
      try rw [show ((q.toNat : Nat) : Int) = q by omega]
      refine ih c hce o1 hc hl0 hz o2 o3 o4 o5 o6 _ ?_
      rw [eS]
      first
        | rw [if_pos h93]
        | rw [if_neg h93]
theorem c_X_film (r s l i : Int) (hr0 : -2147483648 ≤ r ∧ r < 2147483648) (hs : -2147483648 ≤ s ∧ s < 2147483648) (hl : -2147483648 ≤ l ∧ l < 2147483648) (hi : -2147483648 ≤ i ∧ i < 2147483648) (hS : CSh S LN SZ IT) (hB : BR (S 1) N) (hW : WF N) : Fn G k_X_film [oR G 0, vI r, vI s, vI l, vI i] S (PI (fun z S1 => (¬ ((0 ≤ r ∧ r < N 6) ∧ (0 ≤ s ∧ s ≤ 3) ∧ 0 ≤ l ∧ l ≤ 3) ∧ z = -1 ∧ S1 = S) ∨ (((0 ≤ r ∧ r < N 6) ∧ (0 ≤ s ∧ s ≤ 3) ∧ 0 ≤ l ∧ l ≤ 3) ∧ whyV LN SZ s l i (rof N r 1 (N 5).toNat) < 0 ∧ z = whyV LN SZ s l i (rof N r 1 (N 5).toNat) ∧ S1 = S) ∨ (((0 ≤ r ∧ r < N 6) ∧ (0 ≤ s ∧ s ≤ 3) ∧ 0 ≤ l ∧ l ≤ 3) ∧ 0 ≤ whyV LN SZ s l i (rof N r 1 (N 5).toNat) ∧ z = rof N r 1 (N 5).toNat ∧ CSh S1 LN SZ (cpR IT (fun k => lf N (lout N r (k : Int) (N 5).toNat) 1) (24 * s + i).toNat (rof N r 1 (N 5).toNat).toNat) ∧ FrS S S1))) := by
  have hN := hW.1
  have hc1 : 1 ≤ 1 ∧ 1 ≤ 14 := by decide
  obtain ⟨a1, ⟨a2, a3, a4, a5⟩, a6, a7, a8, a9⟩ := id hB
  obtain ⟨hr, i0, i1, i2, i3, i4, i5, i6⟩ := id hN
  have hwc := whyV_c LN SZ s l i (rof N r 1 (N 5).toNat)
  have hro := rof_0 N r 1 (N 5).toNat
  refine Fn.of [some (oR G 0), some (vI r), some (vI s), some (vI l), some (vI i), none, none, none, none] 4 rfl (by decide +kernel) rfl (Nat.le_of_ble_eq_true rfl) (by decide) ?_

  have loop := loopI (fun k => ∀ (c : Nat) (S1 : St), c = 18 + s.toNat → ((0 ≤ r ∧ r < N 6) ∧ (0 ≤ s ∧ s ≤ 3) ∧ 0 ≤ l ∧ l ≤ 3) → whyV LN SZ s l i (rof N r 1 (N 5).toNat) = 0 → CSh S1 LN SZ (cpR IT (fun k => lf N (lout N r (k : Int) (N 5).toNat) 1) (24 * s + i).toNat k.toNat) → FrS S S1 → Go G k_X_film 69 [some (oR G 0), some (vI r), some (vI s), some (vI l), some (vI i), some (vI (rof N r 1 (N 5).toNat)), some (oR G c), some (vI 0), some (vI k)] [] S1 (PI (fun z S1 => (¬ ((0 ≤ r ∧ r < N 6) ∧ (0 ≤ s ∧ s ≤ 3) ∧ 0 ≤ l ∧ l ≤ 3) ∧ z = -1 ∧ S1 = S) ∨ (((0 ≤ r ∧ r < N 6) ∧ (0 ≤ s ∧ s ≤ 3) ∧ 0 ≤ l ∧ l ≤ 3) ∧ whyV LN SZ s l i (rof N r 1 (N 5).toNat) < 0 ∧ z = whyV LN SZ s l i (rof N r 1 (N 5).toNat) ∧ S1 = S) ∨ (((0 ≤ r ∧ r < N 6) ∧ (0 ≤ s ∧ s ≤ 3) ∧ 0 ≤ l ∧ l ≤ 3) ∧ 0 ≤ whyV LN SZ s l i (rof N r 1 (N 5).toNat) ∧ z = rof N r 1 (N 5).toNat ∧ CSh S1 LN SZ (cpR IT (fun k => lf N (lout N r (k : Int) (N 5).toNat) 1) (24 * s + i).toNat (rof N r 1 (N 5).toNat).toNat) ∧ FrS S S1)))) (rof N r 1 (N 5).toNat) ?_ ?_
  refine Go_aload d_X_film_0 lg0 ⟨_, rfl⟩ ?_
  refine Go_get d_X_film_1 fx_0 ?_
  refine Go_iload d_X_film_4 lg1 ?_
  refine Go_V1p d_X_film_5 (kB (by first | assumption | decide | omega)) (c_B_hasRound _ (by omega) (by first | assumption | decide) hB hN) (Nat.le_of_ble_eq_true rfl) ?_
  refine Go_ifeq_d d_X_film_8 (fun h8 => ?_) (fun h8 => ?_)
  · refine Go_const d_X_film_25 ?_
    exact Go_iretI d_X_film_26 (Or.inl ⟨by omega, rfl, rfl⟩)
  · refine Go_iload d_X_film_11 lg2 ?_
    refine Go_S1p d_X_film_12 (c_X_isSheet _ (by omega)) (Nat.le_of_ble_eq_true rfl) ?_
    refine Go_ifeq_d d_X_film_15 (fun h15 => ?_) (fun h15 => ?_)
    · refine Go_const d_X_film_25 ?_
      exact Go_iretI d_X_film_26 (Or.inl ⟨by omega, rfl, rfl⟩)
    · refine Go_iload d_X_film_18 lg3 ?_
      refine Go_S1p d_X_film_19 (c_X_isLane _ (by omega)) (Nat.le_of_ble_eq_true rfl) ?_
      refine Go_ifne_d d_X_film_22 (fun h22 => ?_) (fun h22 => ?_)
      · refine Go_aload d_X_film_27 lg0 ⟨_, rfl⟩ ?_
        refine Go_get d_X_film_28 fx_0 ?_
        refine Go_iload d_X_film_31 lg1 ?_
        refine Go_const d_X_film_32 ?_
        refine Go_V2p d_X_film_33 (kB (by first | assumption | decide | omega)) (c_B_fact _ _ (by omega) (by omega) (by first | assumption | decide) hB hN) (Nat.le_of_ble_eq_true rfl) ?_
        rw [if_pos ⟨by omega, by decide, by decide⟩]
        refine Go_istore d_X_film_36 rfl sa5 ?_
        refine Go_aload d_X_film_38 lg0 ⟨_, rfl⟩ ?_
        refine Go_get d_X_film_39 fx_6 ?_
        refine Go_iload d_X_film_42 lg2 ?_
        refine Go_aald d_X_film_43 aax (by omega) ?_
        rw [rf_0]
        have hcs : 18 ≤ 18 + s.toNat ∧ 18 + s.toNat ≤ 21 := by omega
        obtain ⟨z1, z2, z3, z4⟩ := hS.2 s.toNat (by omega)
        have hst : ((s.toNat : Nat) : Int) = s := by omega
        refine Go_astore d_X_film_44 ⟨_, rfl⟩ rfl sa6 ?_
        refine Go_aload d_X_film_46 lg6 ⟨_, rfl⟩ ?_
        refine Go_iload d_X_film_48 lg3 ?_
        refine Go_iload d_X_film_49 lg4 ?_
        refine Go_iload d_X_film_51 lg5 ?_
        refine Go_V3p d_X_film_53 (kH (by first | assumption | decide | omega)) (c_H_fault _ _ _ (by omega) (by omega) (by omega) (by first | assumption | omega) (by first | assumption | omega) (by first | assumption | omega)) (Nat.le_of_ble_eq_true rfl) ?_
        rw [why_flt hS (by omega) (by omega)]
        refine Go_istore d_X_film_56 rfl sa7 ?_
        refine Go_iload d_X_film_58 lg7 ?_
        refine Go_if_eq d_X_film_60 (by omega) (fun h60 => ?_) (fun h60 => ?_)
        · refine Go_const d_X_film_66 ?_
          refine Go_istore d_X_film_67 rfl sa8 ?_
          have e0 : whyV LN SZ s l i (rof N r 1 (N 5).toNat) = 0 := by omega
          rw [show vI (whyV LN SZ s l i (rof N r 1 (N 5).toNat)) = vI 0 by rw [e0]]
          exact loop 0 (by omega) (by omega) _ S rfl (by omega) e0 (by rw [show (0 : Int).toNat = 0 from rfl, cpR_0]; exact hS) (fun _ _ => rfl)
        · refine Go_iload d_X_film_63 lg7 ?_
          exact Go_iretI d_X_film_65 (Or.inr (Or.inl ⟨by omega, by omega, rfl, rfl⟩))
      · refine Go_const d_X_film_25 ?_
        exact Go_iretI d_X_film_26 (Or.inl ⟨by omega, rfl, rfl⟩)
  · intro c S1 hce o1 o2 f1 f2
    refine Go_iload d_X_film_69 lg8 ?_
    refine Go_iload d_X_film_71 lg5 ?_
    refine Go_icmp_ge d_X_film_73 (by omega) (by omega) (fun h73 => ?_) (fun h73 => absurd h73 (by omega))
    refine Go_iload d_X_film_110 lg5 ?_
    exact Go_iretI d_X_film_112 (Or.inr (Or.inr ⟨o1, by omega, rfl, f1, f2⟩))
  · intro k h0 h1 ih c S1 hce o1 o2 f1 f2
    obtain ⟨y1, y2, y3, y4⟩ := whyV_0 (show 0 ≤ whyV LN SZ s l i (rof N r 1 (N 5).toNat) by omega)
    obtain ⟨z1, z2, z3, z4⟩ := f1.2 s.toNat (by omega)
    obtain ⟨x1, x2⟩ := z4 (by omega)
    obtain ⟨l1, l2, l3⟩ := a9 r k o1.1.1 o1.1.2 h0 h1
    have hlr := lout_rg N r k (N 5).toNat
    have hli := hW.2.2.1 (lout N r k (N 5).toNat) l2 (by omega)
    have hl7 : 0 ≤ lf N (lout N r k (N 5).toNat) 1 ∧ lf N (lout N r k (N 5).toNat) 1 ≤ 7 := hli.2.1
    have hB1 : BR (S1 1) N := by rw [f2 1 (by decide)]; exact hB
    have hcs : 18 ≤ c ∧ c ≤ 21 := by omega
    rw [← hce] at z2 z3 x1 x2
    refine Go_iload d_X_film_69 lg8 ?_
    refine Go_iload d_X_film_71 lg5 ?_
    refine Go_icmp_ge d_X_film_73 (by omega) (by omega) (fun h73 => absurd h73 (by omega)) (fun h73 => ?_)
    refine Go_aload d_X_film_76 lg6 ⟨_, rfl⟩ ?_
    refine Go_iload d_X_film_78 lg4 ?_
    refine Go_iload d_X_film_80 lg8 ?_
    refine Go_iadd d_X_film_82 ?_
    refine Go_aload d_X_film_83 lg0 ⟨_, rfl⟩ ?_
    refine Go_get d_X_film_84 fx_0 ?_
    refine Go_aload d_X_film_87 lg0 ⟨_, rfl⟩ ?_
    refine Go_get d_X_film_88 fx_0 ?_
    refine Go_iload d_X_film_91 lg1 ?_
    refine Go_iload d_X_film_92 lg8 ?_
    refine Go_V2p d_X_film_94 (kB (by first | assumption | decide | omega)) (c_B_outLetter _ _ (by omega) (by omega) hc1 hB1 hN) (Nat.le_of_ble_eq_true rfl) ?_
    rw [if_pos ⟨o1.1, h0, h1⟩]
    refine Go_V1p d_X_film_97 (kB (by first | assumption | decide | omega)) (c_B_receiverOf _ (by omega) hc1 hB1 hN) (Nat.le_of_ble_eq_true rfl) ?_
    rw [if_pos ⟨l2, by omega⟩]
    refine Go_i2l d_X_film_100 (by omega) ?_
    refine Go_V2n d_X_film_101 (kH (by first | assumption | decide | omega)) (c_H_put (i + k) _ (by omega) (by omega) (by omega) hcs (by omega) (by omega)) (Nat.le_of_ble_eq_true rfl) ?_
    rintro S2 rfl
    rw [cutV_s hli.2.1]
    refine Go_iinc d_X_film_104 lg8 rfl sa8 ?_
    refine Go_goto d_X_film_107 ?_
    refine ih c _ hce o1 o2 ?_ (fun c1 hc1 => by rw [st3_sB, sB_c (by omega)]; exact f2 c1 hc1)
    rw [st3_sB]
    refine f1.put (t := s.toNat) (fun c1 hc1 => sB_c (by omega)) (fun k1 k2 k3 => ⟨rfl, rfl, fun x hx => by unfold cpR; rw [if_neg (by omega), if_neg (by omega)]⟩) (fun x => ?_) ?_
    · unfold cpR; split
      · have := hr (7 + 5 * lout N r (((x - (24 * s + i).toNat : Nat)) : Int) (N 5).toNat + 1).toNat
        unfold lf; dsimp only; omega
      · exact hS.1 x
    · rw [← hce, sB_s]
      refine ⟨z1, by rw [ub_j (by decide)]; exact z2, by rw [ub_j (by decide)]; exact z3, fun q => ⟨by rw [ub_j (by decide)]; exact x1, fun x hx => ?_⟩⟩
      by_cases e : x = (i + k).toNat
      · rw [e, ub_s]
        unfold cpR
        rw [if_pos (by omega)]
        dsimp only
        rw [show 24 * s.toNat + (i + k).toNat - (24 * s + i).toNat = k.toNat by omega, show ((k.toNat : Nat) : Int) = k by omega]
      · rw [ub_i e, x2 x hx]
        unfold cpR
        by_cases e2 : (24 * s + i).toNat ≤ 24 * s.toNat + x ∧ 24 * s.toNat + x < (24 * s + i).toNat + k.toNat
        · rw [if_pos e2, if_pos (by omega)]
        · rw [if_neg e2, if_neg (by omega)]
end XSheet
