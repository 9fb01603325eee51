section Acc
variable {G : GT} {S : St} {c : Nat}
theorem fb_0 (hc : 1 ≤ c ∧ c ≤ 14) : FG G S c 0 0 (aR G c 0) := ⟨by omega, kd_book hc, by unfold fl; rw [kd_book hc]; rfl⟩
theorem ab_0 (hc : 1 ≤ c ∧ c ≤ 14) : AI c 0 4 := ⟨by omega, by decide, by unfold ak; rw [kd_book hc]; rfl, by unfold ln; rw [kd_book hc]; rfl, by decide⟩
theorem fb_1 (hc : 1 ≤ c ∧ c ≤ 14) : FG G S c 0 1 (vI (S c 1 0)) := ⟨by omega, kd_book hc, by unfold fl; rw [kd_book hc]; rfl⟩
theorem wb_1 (hc : 1 ≤ c ∧ c ≤ 14) (x : Int) : FP G S c 0 1 x := ⟨by omega, kd_book hc, by unfold ak; rw [kd_book hc]; rfl, by unfold fl; rw [kd_book hc]; exact Nat.le_of_ble_eq_true rfl, by unfold fl; rw [kd_book hc]; simp [fl_Book, st3]⟩
theorem fb_2 (hc : 1 ≤ c ∧ c ≤ 14) : FG G S c 0 2 (vI (S c 2 0)) := ⟨by omega, kd_book hc, by unfold fl; rw [kd_book hc]; rfl⟩
theorem wb_2 (hc : 1 ≤ c ∧ c ≤ 14) (x : Int) : FP G S c 0 2 x := ⟨by omega, kd_book hc, by unfold ak; rw [kd_book hc]; rfl, by unfold fl; rw [kd_book hc]; exact Nat.le_of_ble_eq_true rfl, by unfold fl; rw [kd_book hc]; simp [fl_Book, st3]⟩
theorem fb_3 (hc : 1 ≤ c ∧ c ≤ 14) : FG G S c 0 3 (aR G c 3) := ⟨by omega, kd_book hc, by unfold fl; rw [kd_book hc]; rfl⟩
theorem ab_3 (hc : 1 ≤ c ∧ c ≤ 14) : AI c 3 79 := ⟨by omega, by decide, by unfold ak; rw [kd_book hc]; rfl, by unfold ln; rw [kd_book hc]; rfl, by decide⟩
theorem fb_4 (hc : 1 ≤ c ∧ c ≤ 14) : FG G S c 0 4 (aR G c 4) := ⟨by omega, kd_book hc, by unfold fl; rw [kd_book hc]; rfl⟩
theorem ab_4 (hc : 1 ≤ c ∧ c ≤ 14) : AI c 4 79 := ⟨by omega, by decide, by unfold ak; rw [kd_book hc]; rfl, by unfold ln; rw [kd_book hc]; rfl, by decide⟩
theorem fb_5 (hc : 1 ≤ c ∧ c ≤ 14) : FG G S c 0 5 (aR G c 5) := ⟨by omega, kd_book hc, by unfold fl; rw [kd_book hc]; rfl⟩
theorem ab_5 (hc : 1 ≤ c ∧ c ≤ 14) : AI c 5 79 := ⟨by omega, by decide, by unfold ak; rw [kd_book hc]; rfl, by unfold ln; rw [kd_book hc]; rfl, by decide⟩
theorem fb_6 (hc : 1 ≤ c ∧ c ≤ 14) : FG G S c 0 6 (aR G c 6) := ⟨by omega, kd_book hc, by unfold fl; rw [kd_book hc]; rfl⟩
theorem ab_6 (hc : 1 ≤ c ∧ c ≤ 14) : AI c 6 79 := ⟨by omega, by decide, by unfold ak; rw [kd_book hc]; rfl, by unfold ln; rw [kd_book hc]; rfl, by decide⟩
theorem fb_7 (hc : 1 ≤ c ∧ c ≤ 14) : FG G S c 0 7 (aR G c 7) := ⟨by omega, kd_book hc, by unfold fl; rw [kd_book hc]; rfl⟩
theorem ab_7 (hc : 1 ≤ c ∧ c ≤ 14) : AI c 7 79 := ⟨by omega, by decide, by unfold ak; rw [kd_book hc]; rfl, by unfold ln; rw [kd_book hc]; rfl, by decide⟩
theorem fb_8 (hc : 1 ≤ c ∧ c ≤ 14) : FG G S c 0 8 (vI (S c 8 0)) := ⟨by omega, kd_book hc, by unfold fl; rw [kd_book hc]; rfl⟩
theorem wb_8 (hc : 1 ≤ c ∧ c ≤ 14) (x : Int) : FP G S c 0 8 x := ⟨by omega, kd_book hc, by unfold ak; rw [kd_book hc]; rfl, by unfold fl; rw [kd_book hc]; exact Nat.le_of_ble_eq_true rfl, by unfold fl; rw [kd_book hc]; simp [fl_Book, st3]⟩
theorem fb_9 (hc : 1 ≤ c ∧ c ≤ 14) : FG G S c 0 9 (aR G c 9) := ⟨by omega, kd_book hc, by unfold fl; rw [kd_book hc]; rfl⟩
theorem ab_9 (hc : 1 ≤ c ∧ c ≤ 14) : AI c 9 15 := ⟨by omega, by decide, by unfold ak; rw [kd_book hc]; rfl, by unfold ln; rw [kd_book hc]; rfl, by decide⟩
theorem fb_10 (hc : 1 ≤ c ∧ c ≤ 14) : FG G S c 0 10 (vI (S c 10 0)) := ⟨by omega, kd_book hc, by unfold fl; rw [kd_book hc]; rfl⟩
theorem wb_10 (hc : 1 ≤ c ∧ c ≤ 14) (x : Int) : FP G S c 0 10 x := ⟨by omega, kd_book hc, by unfold ak; rw [kd_book hc]; rfl, by unfold fl; rw [kd_book hc]; exact Nat.le_of_ble_eq_true rfl, by unfold fl; rw [kd_book hc]; simp [fl_Book, st3]⟩
theorem fb_11 (hc : 1 ≤ c ∧ c ≤ 14) : FG G S c 0 11 (aR G c 11) := ⟨by omega, kd_book hc, by unfold fl; rw [kd_book hc]; rfl⟩
theorem ab_11 (hc : 1 ≤ c ∧ c ≤ 14) : AI c 11 72 := ⟨by omega, by decide, by unfold ak; rw [kd_book hc]; rfl, by unfold ln; rw [kd_book hc]; rfl, by decide⟩
theorem fb_12 (hc : 1 ≤ c ∧ c ≤ 14) : FG G S c 0 12 (aR G c 12) := ⟨by omega, kd_book hc, by unfold fl; rw [kd_book hc]; rfl⟩
theorem ab_12 (hc : 1 ≤ c ∧ c ≤ 14) : AI c 12 180 := ⟨by omega, by decide, by unfold ak; rw [kd_book hc]; rfl, by unfold ln; rw [kd_book hc]; rfl, by decide⟩
theorem fp_0 (hc : 15 ≤ c ∧ c ≤ 16) : FG G S c 1 0 (aR G c 0) := ⟨by omega, kd_past hc, by unfold fl; rw [kd_past hc]; rfl⟩
theorem fp_1 (hc : 15 ≤ c ∧ c ≤ 16) : FG G S c 1 1 (vI (S c 1 0)) := ⟨by omega, kd_past hc, by unfold fl; rw [kd_past hc]; rfl⟩
theorem wp_1 (hc : 15 ≤ c ∧ c ≤ 16) (x : Int) : FP G S c 1 1 x := ⟨by omega, kd_past hc, by unfold ak; rw [kd_past hc]; rfl, by unfold fl; rw [kd_past hc]; exact Nat.le_of_ble_eq_true rfl, by unfold fl; rw [kd_past hc]; simp [fl_Past, st3]⟩
theorem fp_2 (hc : 15 ≤ c ∧ c ≤ 16) : FG G S c 1 2 (vI (S c 2 0)) := ⟨by omega, kd_past hc, by unfold fl; rw [kd_past hc]; rfl⟩
theorem wp_2 (hc : 15 ≤ c ∧ c ≤ 16) (x : Int) : FP G S c 1 2 x := ⟨by omega, kd_past hc, by unfold ak; rw [kd_past hc]; rfl, by unfold fl; rw [kd_past hc]; exact Nat.le_of_ble_eq_true rfl, by unfold fl; rw [kd_past hc]; simp [fl_Past, st3]⟩
theorem fh_0 (hc : 18 ≤ c ∧ c ≤ 21) : FG G S c 2 0 (vI (S c 0 0)) := ⟨by omega, kd_sheet hc, by unfold fl; rw [kd_sheet hc]; rfl⟩
theorem wh_0 (hc : 18 ≤ c ∧ c ≤ 21) (x : Int) : FP G S c 2 0 x := ⟨by omega, kd_sheet hc, by unfold ak; rw [kd_sheet hc]; rfl, by unfold fl; rw [kd_sheet hc]; exact Nat.le_of_ble_eq_true rfl, by unfold fl; rw [kd_sheet hc]; simp [fl_Sheet, st3]⟩
theorem fh_1 (hc : 18 ≤ c ∧ c ≤ 21) : FG G S c 2 1 (vI (S c 1 0)) := ⟨by omega, kd_sheet hc, by unfold fl; rw [kd_sheet hc]; rfl⟩
theorem wh_1 (hc : 18 ≤ c ∧ c ≤ 21) (x : Int) : FP G S c 2 1 x := ⟨by omega, kd_sheet hc, by unfold ak; rw [kd_sheet hc]; rfl, by unfold fl; rw [kd_sheet hc]; exact Nat.le_of_ble_eq_true rfl, by unfold fl; rw [kd_sheet hc]; simp [fl_Sheet, st3]⟩
theorem fh_2 (hc : 18 ≤ c ∧ c ≤ 21) : FG G S c 2 2 (aR G c 2) := ⟨by omega, kd_sheet hc, by unfold fl; rw [kd_sheet hc]; rfl⟩
theorem ah_2 (hc : 18 ≤ c ∧ c ≤ 21) : AL c 2 24 := ⟨by omega, by decide, by unfold ak; rw [kd_sheet hc]; rfl, by unfold ln; rw [kd_sheet hc]; rfl, by decide⟩
theorem ft_0 : FG G S 17 3 0 (aR G 17 0) := ⟨by decide, rfl, rfl⟩
theorem at_0 : AI 17 0 90 := ⟨by decide, by decide, rfl, rfl, by decide⟩
theorem ft_1 : FG G S 17 3 1 (vI (S 17 1 0)) := ⟨by decide, rfl, rfl⟩
theorem wt_1 (x : Int) : FP G S 17 3 1 x := ⟨by decide, rfl, rfl, Nat.le_of_ble_eq_true rfl, by show fl_Tape G _ 17 = (fl_Tape G S 17).set 1 _; simp [fl_Tape, st3]⟩
theorem ft_2 : FG G S 17 3 2 (aR G 17 2) := ⟨by decide, rfl, rfl⟩
theorem at_2 : AI 17 2 90 := ⟨by decide, by decide, rfl, rfl, by decide⟩
theorem ft_3 : FG G S 17 3 3 (aR G 17 3) := ⟨by decide, rfl, rfl⟩
theorem at_3 : AI 17 3 90 := ⟨by decide, by decide, rfl, rfl, by decide⟩
theorem ft_4 : FG G S 17 3 4 (vI (S 17 4 0)) := ⟨by decide, rfl, rfl⟩
theorem wt_4 (x : Int) : FP G S 17 3 4 x := ⟨by decide, rfl, rfl, Nat.le_of_ble_eq_true rfl, by show fl_Tape G _ 17 = (fl_Tape G S 17).set 4 _; simp [fl_Tape, st3]⟩
theorem fx_0 : FG G S 0 4 0 (oR G 1) := ⟨by decide, rfl, rfl⟩
theorem fx_1 : FG G S 0 4 1 (oR G 15) := ⟨by decide, rfl, rfl⟩
theorem fx_2 : FG G S 0 4 2 (oR G 8) := ⟨by decide, rfl, rfl⟩
theorem fx_3 : FG G S 0 4 3 (oR G 16) := ⟨by decide, rfl, rfl⟩
theorem fx_4 : FG G S 0 4 4 (vI (S 0 4 0)) := ⟨by decide, rfl, rfl⟩
theorem wx_4 (x : Int) : FP G S 0 4 4 x := ⟨by decide, rfl, rfl, Nat.le_of_ble_eq_true rfl, by show fl_Mix G _ 0 = (fl_Mix G S 0).set 4 _; simp [fl_Mix, st3]⟩
theorem fx_5 : FG G S 0 4 5 (oR G 17) := ⟨by decide, rfl, rfl⟩
theorem fx_6 : FG G S 0 4 6 (aR G 0 6) := ⟨by decide, rfl, rfl⟩
theorem fm_0 : FG G S 22 5 0 (aR G 22 0) := ⟨by decide, rfl, rfl⟩
theorem am_0 : AI 22 0 402 := ⟨by decide, by decide, rfl, rfl, by decide⟩
theorem fm_1 : FG G S 22 5 1 (aR G 22 1) := ⟨by decide, rfl, rfl⟩
theorem am_1 : AI 22 1 12 := ⟨by decide, by decide, rfl, rfl, by decide⟩
theorem fm_2 : FG G S 22 5 2 (aR G 22 2) := ⟨by decide, rfl, rfl⟩
theorem am_2 : AI 22 2 12 := ⟨by decide, by decide, rfl, rfl, by decide⟩
theorem fm_3 : FG G S 22 5 3 (aR G 22 3) := ⟨by decide, rfl, rfl⟩
theorem am_3 : AI 22 3 90 := ⟨by decide, by decide, rfl, rfl, by decide⟩
theorem fm_4 : FG G S 22 5 4 (vI (S 22 4 0)) := ⟨by decide, rfl, rfl⟩
theorem wm_4 (x : Int) : FP G S 22 5 4 x := ⟨by decide, rfl, rfl, Nat.le_of_ble_eq_true rfl, by show fl_Model G _ 22 = (fl_Model G S 22).set 4 _; simp [fl_Model, st3]⟩
theorem fm_5 : FG G S 22 5 5 (vI (S 22 5 0)) := ⟨by decide, rfl, rfl⟩
theorem wm_5 (x : Int) : FP G S 22 5 5 x := ⟨by decide, rfl, rfl, Nat.le_of_ble_eq_true rfl, by show fl_Model G _ 22 = (fl_Model G S 22).set 5 _; simp [fl_Model, st3]⟩
theorem fm_6 : FG G S 22 5 6 (vI (S 22 6 0)) := ⟨by decide, rfl, rfl⟩
theorem wm_6 (x : Int) : FP G S 22 5 6 x := ⟨by decide, rfl, rfl, Nat.le_of_ble_eq_true rfl, by show fl_Model G _ 22 = (fl_Model G S 22).set 6 _; simp [fl_Model, st3]⟩
theorem fm_7 : FG G S 22 5 7 (aR G 22 7) := ⟨by decide, rfl, rfl⟩
theorem am_7 : AI 22 7 2412 := ⟨by decide, by decide, rfl, rfl, by decide⟩
theorem fm_8 : FG G S 22 5 8 (vI (S 22 8 0)) := ⟨by decide, rfl, rfl⟩
theorem wm_8 (x : Int) : FP G S 22 5 8 x := ⟨by decide, rfl, rfl, Nat.le_of_ble_eq_true rfl, by show fl_Model G _ 22 = (fl_Model G S 22).set 8 _; simp [fl_Model, st3]⟩
theorem fm_9 : FG G S 22 5 9 (aR G 22 9) := ⟨by decide, rfl, rfl⟩
theorem am_9 : AI 22 9 402 := ⟨by decide, by decide, rfl, rfl, by decide⟩
theorem fm_10 : FG G S 22 5 10 (aR G 22 10) := ⟨by decide, rfl, rfl⟩
theorem am_10 : AI 22 10 2412 := ⟨by decide, by decide, rfl, rfl, by decide⟩
theorem fm_11 : FG G S 22 5 11 (vI (S 22 11 0)) := ⟨by decide, rfl, rfl⟩
theorem wm_11 (x : Int) : FP G S 22 5 11 x := ⟨by decide, rfl, rfl, Nat.le_of_ble_eq_true rfl, by show fl_Model G _ 22 = (fl_Model G S 22).set 11 _; simp [fl_Model, st3]⟩
theorem fm_12 : FG G S 22 5 12 (aR G 22 12) := ⟨by decide, rfl, rfl⟩
theorem am_12 : AI 22 12 4 := ⟨by decide, by decide, rfl, rfl, by decide⟩
theorem fm_13 : FG G S 22 5 13 (aR G 22 13) := ⟨by decide, rfl, rfl⟩
theorem am_13 : AI 22 13 4 := ⟨by decide, by decide, rfl, rfl, by decide⟩
theorem fm_14 : FG G S 22 5 14 (aR G 22 14) := ⟨by decide, rfl, rfl⟩
theorem am_14 : AL 22 14 96 := ⟨by decide, by decide, rfl, rfl, by decide⟩
theorem fm_15 : FG G S 22 5 15 (aR G 22 15) := ⟨by decide, rfl, rfl⟩
theorem am_15 : AL 22 15 24 := ⟨by decide, by decide, rfl, rfl, by decide⟩
theorem kB (hc : 1 ≤ c ∧ c ≤ 14) : c < 23 ∧ kd c = 0 := ⟨by omega, kd_book hc⟩
theorem kP (hc : 15 ≤ c ∧ c ≤ 16) : c < 23 ∧ kd c = 1 := ⟨by omega, kd_past hc⟩
theorem kH (hc : 18 ≤ c ∧ c ≤ 21) : c < 23 ∧ kd c = 2 := ⟨by omega, kd_sheet hc⟩
theorem kT : 17 < 23 ∧ kd 17 = 3 := by decide
theorem kX : 0 < 23 ∧ kd 0 = 4 := by decide
theorem kM : 22 < 23 ∧ kd 22 = 5 := by decide
theorem aap (hc : 15 ≤ c ∧ c ≤ 16) : c < 23 ∧ 0 < 16 ∧ ak c 0 = 3 ∧ ln c 0 = 6 := ⟨by omega, by decide, by unfold ak; rw [kd_past hc]; rfl, by unfold ln; rw [kd_past hc]; rfl⟩
theorem aax : 0 < 23 ∧ 6 < 16 ∧ ak 0 6 = 3 ∧ ln 0 6 = 4 := by decide
end Acc
section Loc
theorem lg0 {a0 : Option Value} {r : List (Option Value)} : lg 0 (a0 :: r) = a0 := rfl
theorem sa0 {v : Value} {a0 : Option Value} {r : List (Option Value)} : ls1 v 0 (a0 :: r) = some v :: r := rfl
theorem sb0 {v : Value} {a0 b : Option Value} {r : List (Option Value)} : ls2 v 0 (a0 :: b :: r) = some v :: none :: r := rfl
theorem lg1 {a0 a1 : Option Value} {r : List (Option Value)} : lg 1 (a0 :: a1 :: r) = a1 := rfl
theorem sa1 {v : Value} {a0 a1 : Option Value} {r : List (Option Value)} : ls1 v 1 (a0 :: a1 :: r) = a0 :: some v :: r := rfl
theorem sb1 {v : Value} {a0 a1 b : Option Value} {r : List (Option Value)} : ls2 v 1 (a0 :: a1 :: b :: r) = a0 :: some v :: none :: r := rfl
theorem lg2 {a0 a1 a2 : Option Value} {r : List (Option Value)} : lg 2 (a0 :: a1 :: a2 :: r) = a2 := rfl
theorem sa2 {v : Value} {a0 a1 a2 : Option Value} {r : List (Option Value)} : ls1 v 2 (a0 :: a1 :: a2 :: r) = a0 :: a1 :: some v :: r := rfl
theorem sb2 {v : Value} {a0 a1 a2 b : Option Value} {r : List (Option Value)} : ls2 v 2 (a0 :: a1 :: a2 :: b :: r) = a0 :: a1 :: some v :: none :: r := rfl
theorem lg3 {a0 a1 a2 a3 : Option Value} {r : List (Option Value)} : lg 3 (a0 :: a1 :: a2 :: a3 :: r) = a3 := rfl
theorem sa3 {v : Value} {a0 a1 a2 a3 : Option Value} {r : List (Option Value)} : ls1 v 3 (a0 :: a1 :: a2 :: a3 :: r) = a0 :: a1 :: a2 :: some v :: r := rfl
theorem sb3 {v : Value} {a0 a1 a2 a3 b : Option Value} {r : List (Option Value)} : ls2 v 3 (a0 :: a1 :: a2 :: a3 :: b :: r) = a0 :: a1 :: a2 :: some v :: none :: r := rfl
theorem lg4 {a0 a1 a2 a3 a4 : Option Value} {r : List (Option Value)} : lg 4 (a0 :: a1 :: a2 :: a3 :: a4 :: r) = a4 := rfl
theorem sa4 {v : Value} {a0 a1 a2 a3 a4 : Option Value} {r : List (Option Value)} : ls1 v 4 (a0 :: a1 :: a2 :: a3 :: a4 :: r) = a0 :: a1 :: a2 :: a3 :: some v :: r := rfl
theorem sb4 {v : Value} {a0 a1 a2 a3 a4 b : Option Value} {r : List (Option Value)} : ls2 v 4 (a0 :: a1 :: a2 :: a3 :: a4 :: b :: r) = a0 :: a1 :: a2 :: a3 :: some v :: none :: r := rfl
theorem lg5 {a0 a1 a2 a3 a4 a5 : Option Value} {r : List (Option Value)} : lg 5 (a0 :: a1 :: a2 :: a3 :: a4 :: a5 :: r) = a5 := rfl
theorem sa5 {v : Value} {a0 a1 a2 a3 a4 a5 : Option Value} {r : List (Option Value)} : ls1 v 5 (a0 :: a1 :: a2 :: a3 :: a4 :: a5 :: r) = a0 :: a1 :: a2 :: a3 :: a4 :: some v :: r := rfl
theorem sb5 {v : Value} {a0 a1 a2 a3 a4 a5 b : Option Value} {r : List (Option Value)} : ls2 v 5 (a0 :: a1 :: a2 :: a3 :: a4 :: a5 :: b :: r) = a0 :: a1 :: a2 :: a3 :: a4 :: some v :: none :: r := rfl
theorem lg6 {a0 a1 a2 a3 a4 a5 a6 : Option Value} {r : List (Option Value)} : lg 6 (a0 :: a1 :: a2 :: a3 :: a4 :: a5 :: a6 :: r) = a6 := rfl
theorem sa6 {v : Value} {a0 a1 a2 a3 a4 a5 a6 : Option Value} {r : List (Option Value)} : ls1 v 6 (a0 :: a1 :: a2 :: a3 :: a4 :: a5 :: a6 :: r) = a0 :: a1 :: a2 :: a3 :: a4 :: a5 :: some v :: r := rfl
theorem sb6 {v : Value} {a0 a1 a2 a3 a4 a5 a6 b : Option Value} {r : List (Option Value)} : ls2 v 6 (a0 :: a1 :: a2 :: a3 :: a4 :: a5 :: a6 :: b :: r) = a0 :: a1 :: a2 :: a3 :: a4 :: a5 :: some v :: none :: r := rfl
theorem lg7 {a0 a1 a2 a3 a4 a5 a6 a7 : Option Value} {r : List (Option Value)} : lg 7 (a0 :: a1 :: a2 :: a3 :: a4 :: a5 :: a6 :: a7 :: r) = a7 := rfl
theorem sa7 {v : Value} {a0 a1 a2 a3 a4 a5 a6 a7 : Option Value} {r : List (Option Value)} : ls1 v 7 (a0 :: a1 :: a2 :: a3 :: a4 :: a5 :: a6 :: a7 :: r) = a0 :: a1 :: a2 :: a3 :: a4 :: a5 :: a6 :: some v :: r := rfl
theorem sb7 {v : Value} {a0 a1 a2 a3 a4 a5 a6 a7 b : Option Value} {r : List (Option Value)} : ls2 v 7 (a0 :: a1 :: a2 :: a3 :: a4 :: a5 :: a6 :: a7 :: b :: r) = a0 :: a1 :: a2 :: a3 :: a4 :: a5 :: a6 :: some v :: none :: r := rfl
theorem lg8 {a0 a1 a2 a3 a4 a5 a6 a7 a8 : Option Value} {r : List (Option Value)} : lg 8 (a0 :: a1 :: a2 :: a3 :: a4 :: a5 :: a6 :: a7 :: a8 :: r) = a8 := rfl
theorem sa8 {v : Value} {a0 a1 a2 a3 a4 a5 a6 a7 a8 : Option Value} {r : List (Option Value)} : ls1 v 8 (a0 :: a1 :: a2 :: a3 :: a4 :: a5 :: a6 :: a7 :: a8 :: r) = a0 :: a1 :: a2 :: a3 :: a4 :: a5 :: a6 :: a7 :: some v :: r := rfl
theorem sb8 {v : Value} {a0 a1 a2 a3 a4 a5 a6 a7 a8 b : Option Value} {r : List (Option Value)} : ls2 v 8 (a0 :: a1 :: a2 :: a3 :: a4 :: a5 :: a6 :: a7 :: a8 :: b :: r) = a0 :: a1 :: a2 :: a3 :: a4 :: a5 :: a6 :: a7 :: some v :: none :: r := rfl
theorem lg9 {a0 a1 a2 a3 a4 a5 a6 a7 a8 a9 : Option Value} {r : List (Option Value)} : lg 9 (a0 :: a1 :: a2 :: a3 :: a4 :: a5 :: a6 :: a7 :: a8 :: a9 :: r) = a9 := rfl
theorem sa9 {v : Value} {a0 a1 a2 a3 a4 a5 a6 a7 a8 a9 : Option Value} {r : List (Option Value)} : ls1 v 9 (a0 :: a1 :: a2 :: a3 :: a4 :: a5 :: a6 :: a7 :: a8 :: a9 :: r) = a0 :: a1 :: a2 :: a3 :: a4 :: a5 :: a6 :: a7 :: a8 :: some v :: r := rfl
theorem sb9 {v : Value} {a0 a1 a2 a3 a4 a5 a6 a7 a8 a9 b : Option Value} {r : List (Option Value)} : ls2 v 9 (a0 :: a1 :: a2 :: a3 :: a4 :: a5 :: a6 :: a7 :: a8 :: a9 :: b :: r) = a0 :: a1 :: a2 :: a3 :: a4 :: a5 :: a6 :: a7 :: a8 :: some v :: none :: r := rfl
theorem lg10 {a0 a1 a2 a3 a4 a5 a6 a7 a8 a9 a10 : Option Value} {r : List (Option Value)} : lg 10 (a0 :: a1 :: a2 :: a3 :: a4 :: a5 :: a6 :: a7 :: a8 :: a9 :: a10 :: r) = a10 := rfl
theorem sa10 {v : Value} {a0 a1 a2 a3 a4 a5 a6 a7 a8 a9 a10 : Option Value} {r : List (Option Value)} : ls1 v 10 (a0 :: a1 :: a2 :: a3 :: a4 :: a5 :: a6 :: a7 :: a8 :: a9 :: a10 :: r) = a0 :: a1 :: a2 :: a3 :: a4 :: a5 :: a6 :: a7 :: a8 :: a9 :: some v :: r := rfl
theorem sb10 {v : Value} {a0 a1 a2 a3 a4 a5 a6 a7 a8 a9 a10 b : Option Value} {r : List (Option Value)} : ls2 v 10 (a0 :: a1 :: a2 :: a3 :: a4 :: a5 :: a6 :: a7 :: a8 :: a9 :: a10 :: b :: r) = a0 :: a1 :: a2 :: a3 :: a4 :: a5 :: a6 :: a7 :: a8 :: a9 :: some v :: none :: r := rfl
theorem lg11 {a0 a1 a2 a3 a4 a5 a6 a7 a8 a9 a10 a11 : Option Value} {r : List (Option Value)} : lg 11 (a0 :: a1 :: a2 :: a3 :: a4 :: a5 :: a6 :: a7 :: a8 :: a9 :: a10 :: a11 :: r) = a11 := rfl
theorem sa11 {v : Value} {a0 a1 a2 a3 a4 a5 a6 a7 a8 a9 a10 a11 : Option Value} {r : List (Option Value)} : ls1 v 11 (a0 :: a1 :: a2 :: a3 :: a4 :: a5 :: a6 :: a7 :: a8 :: a9 :: a10 :: a11 :: r) = a0 :: a1 :: a2 :: a3 :: a4 :: a5 :: a6 :: a7 :: a8 :: a9 :: a10 :: some v :: r := rfl
theorem sb11 {v : Value} {a0 a1 a2 a3 a4 a5 a6 a7 a8 a9 a10 a11 b : Option Value} {r : List (Option Value)} : ls2 v 11 (a0 :: a1 :: a2 :: a3 :: a4 :: a5 :: a6 :: a7 :: a8 :: a9 :: a10 :: a11 :: b :: r) = a0 :: a1 :: a2 :: a3 :: a4 :: a5 :: a6 :: a7 :: a8 :: a9 :: a10 :: some v :: none :: r := rfl
theorem lg12 {a0 a1 a2 a3 a4 a5 a6 a7 a8 a9 a10 a11 a12 : Option Value} {r : List (Option Value)} : lg 12 (a0 :: a1 :: a2 :: a3 :: a4 :: a5 :: a6 :: a7 :: a8 :: a9 :: a10 :: a11 :: a12 :: r) = a12 := rfl
theorem sa12 {v : Value} {a0 a1 a2 a3 a4 a5 a6 a7 a8 a9 a10 a11 a12 : Option Value} {r : List (Option Value)} : ls1 v 12 (a0 :: a1 :: a2 :: a3 :: a4 :: a5 :: a6 :: a7 :: a8 :: a9 :: a10 :: a11 :: a12 :: r) = a0 :: a1 :: a2 :: a3 :: a4 :: a5 :: a6 :: a7 :: a8 :: a9 :: a10 :: a11 :: some v :: r := rfl
theorem sb12 {v : Value} {a0 a1 a2 a3 a4 a5 a6 a7 a8 a9 a10 a11 a12 b : Option Value} {r : List (Option Value)} : ls2 v 12 (a0 :: a1 :: a2 :: a3 :: a4 :: a5 :: a6 :: a7 :: a8 :: a9 :: a10 :: a11 :: a12 :: b :: r) = a0 :: a1 :: a2 :: a3 :: a4 :: a5 :: a6 :: a7 :: a8 :: a9 :: a10 :: a11 :: some v :: none :: r := rfl
theorem lg13 {a0 a1 a2 a3 a4 a5 a6 a7 a8 a9 a10 a11 a12 a13 : Option Value} {r : List (Option Value)} : lg 13 (a0 :: a1 :: a2 :: a3 :: a4 :: a5 :: a6 :: a7 :: a8 :: a9 :: a10 :: a11 :: a12 :: a13 :: r) = a13 := rfl
theorem sa13 {v : Value} {a0 a1 a2 a3 a4 a5 a6 a7 a8 a9 a10 a11 a12 a13 : Option Value} {r : List (Option Value)} : ls1 v 13 (a0 :: a1 :: a2 :: a3 :: a4 :: a5 :: a6 :: a7 :: a8 :: a9 :: a10 :: a11 :: a12 :: a13 :: r) = a0 :: a1 :: a2 :: a3 :: a4 :: a5 :: a6 :: a7 :: a8 :: a9 :: a10 :: a11 :: a12 :: some v :: r := rfl
theorem sb13 {v : Value} {a0 a1 a2 a3 a4 a5 a6 a7 a8 a9 a10 a11 a12 a13 b : Option Value} {r : List (Option Value)} : ls2 v 13 (a0 :: a1 :: a2 :: a3 :: a4 :: a5 :: a6 :: a7 :: a8 :: a9 :: a10 :: a11 :: a12 :: a13 :: b :: r) = a0 :: a1 :: a2 :: a3 :: a4 :: a5 :: a6 :: a7 :: a8 :: a9 :: a10 :: a11 :: a12 :: some v :: none :: r := rfl
end Loc
/-- a loop that counts up -/
theorem loopI (P : Int → Prop) (N : Int) (hend : P N) (hstep : ∀ i, 0 ≤ i → i < N → P (i + 1) → P i) : ∀ i, 0 ≤ i → i ≤ N → P i := by
  intro i h0 h1
  obtain ⟨d, hd⟩ : ∃ d : Nat, N - i = (d : Int) := Int.eq_ofNat_of_zero_le (by omega)
  induction d generalizing i with
  | zero => rw [show i = N by omega]; exact hend
  | succ d ih => exact hstep i h0 (by omega) (ih (i + 1) (by omega) (by omega) (by omega))
theorem loopF (P : Int → Prop) (i0 N : Int) (hend : P N) (hstep : ∀ i, i0 ≤ i → i < N → P (i + 1) → P i) : ∀ i, i0 ≤ i → i ≤ N → P i := by
  intro i h0 h1
  obtain ⟨d, hd⟩ : ∃ d : Nat, N - i = (d : Int) := Int.eq_ofNat_of_zero_le (by omega)
  induction d generalizing i with
  | zero => rw [show i = N by omega]; exact hend
  | succ d ih => exact hstep i h0 (by omega) (ih (i + 1) (by omega) (by omega) (by omega))
