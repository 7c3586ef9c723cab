/-! THE BOOK'S SMALL METHODS -/
theorem ret_t {b : Bool} (h : b = true) : some (Value.int (nI 1)) = some (Value.int (bI b)) := by rw [h]; rfl
theorem ret_f {b : Bool} (h : b = false) : some (Value.int (nI 0)) = some (Value.int (bI b)) := by rw [h]; rfl
theorem bI_z (b : Bool) : narrow .boolean (.int (bI b)) = .int (bI b) := by cases b <;> rfl
def inB (x : Int32) : Bool := decide (0 ≤ x ∧ x < 10)
def kdB (j : Nat) (x : Int32) : Bool := decide (kd x = j)
def sgA (s : Nat → Int32) (n k : Nat) : Int32 := if k < n then s k else 0
def chS (s : Nat → Int32) : Prop := ∀ j, j < 24 → narrow .char (.int (s j)) = .int (s j)
def nbI (x : Int32) : Int32 := if x = -1 then 0 else 1 <<< (x &&& 31)
def shI (M : Me) (c : Nat) : Int32 := if M (7 + c) 1 = -1 then 0 else if M (7 + c) 2 = 0 then (if M (7 + c) 3 = 0 then M (7 + c) 4 else 12) else M (7 + c) 2
def fuB (M : Me) (c : Nat) : Bool := decide (¬ M (17 + c) 4 = 0 ∧ M (17 + c) 3 = 2)
theorem i_nlt {a b : Int32} (h : ¬ a < b) : b ≤ a := Int32.not_lt.mp h
theorem i_nle {a b : Int32} (h : ¬ a ≤ b) : b < a := Int32.not_le.mp h
theorem nI_i {n : Nat} (h : n < 2 ^ 31) : ¬ nI n < 0 := nI_pos h
set_option maxHeartbeats 4000000 in
theorem m_B_isCell (l : Launch) (g : Gd) (hI : sI (sB g)) (M : Me) (x : Int32) : CB l g y_B_isCell c_B_isCell 1 (some .boolean) 1 [.int x] M (fun r M' => r = some (.int (bI (inB x))) ∧ M = M') := by
  refine Ct.of hI (sB_N0 g) rfl (Nat.le_of_ble_eq_true rfl) (fun K h0 hC hR hkl hn => ?_)
  have hC : Cx (sB g) K gC_B _ := hC
  show V K (wp (sB g)) M 0 [(0, .int x)] []
  refine v_iload_n h0 d_B_isCell_0 0 rfl ?_
  refine v_if_lt h0 d_B_isCell_1 rfl (fun h1 => ?_) (fun h1 => ?_)
  · skip
    refine v_iconst h0 d_B_isCell_14 (v := nI 0) (by decide) ?_
    exact v_zret h0 hC hR (rfl) d_B_isCell_15 (⟨ret_f (decide_eq_false (fun q => absurd h1 (Int32.not_lt.mpr q.1))), rfl⟩)
  · skip
    refine v_iload_n h0 d_B_isCell_4 0 rfl ?_
    refine v_bipush h0 d_B_isCell_5 (v := nI 10) (by decide) ?_
    refine v_icmp_ge h0 d_B_isCell_7 rfl (fun h7 => ?_) (fun h7 => ?_)
    · skip
      refine v_iconst h0 d_B_isCell_14 (v := nI 0) (by decide) ?_
      exact v_zret h0 hC hR (rfl) d_B_isCell_15 (⟨ret_f (decide_eq_false (fun q => absurd h7 (Int32.not_le.mpr q.2))), rfl⟩)
    · skip
      refine v_iconst h0 d_B_isCell_10 (v := nI 1) (by decide) ?_
      refine v_goto h0 d_B_isCell_11 rfl ?_
      exact v_zret h0 hC hR (rfl) d_B_isCell_15 (⟨ret_t (decide_eq_true ⟨i_nlt h1, i_nle h7⟩), rfl⟩)
set_option maxHeartbeats 4000000 in
theorem m_B_isDigit (l : Launch) (g : Gd) (hI : sI (sB g)) (M : Me) (x : Int32) : CB l g y_B_isDigit c_B_isDigit 1 (some .boolean) 1 [.int x] M (fun r M' => r = some (.int (bI (kdB 7 x))) ∧ M = M') := by
  refine Ct.of hI (sB_N0 g) rfl (Nat.le_of_ble_eq_true rfl) (fun K h0 hC hR hkl hn => ?_)
  have hC : Cx (sB g) K gC_B _ := hC
  show V K (wp (sB g)) M 0 [(0, .int x)] []
  refine v_iload_n h0 d_B_isDigit_0 0 rfl ?_
  refine v_bipush h0 d_B_isDigit_1 (v := nI 48) (by decide) ?_
  refine v_icmp_lt h0 d_B_isDigit_3 rfl (fun h3 => ?_) (fun h3 => ?_)
  · skip
    refine v_iconst h0 d_B_isDigit_16 (v := nI 0) (by decide) ?_
    exact v_zret h0 hC hR (rfl) d_B_isDigit_17 (⟨ret_f (decide_eq_false (fun q => absurd h3 (Int32.not_lt.mpr ((kd_7 x).mp q).1))), rfl⟩)
  · skip
    refine v_iload_n h0 d_B_isDigit_6 0 rfl ?_
    refine v_bipush h0 d_B_isDigit_7 (v := nI 57) (by decide) ?_
    refine v_icmp_gt h0 d_B_isDigit_9 rfl (fun h9 => ?_) (fun h9 => ?_)
    · skip
      refine v_iconst h0 d_B_isDigit_16 (v := nI 0) (by decide) ?_
      exact v_zret h0 hC hR (rfl) d_B_isDigit_17 (⟨ret_f (decide_eq_false (fun q => absurd h9 (Int32.not_lt.mpr ((kd_7 x).mp q).2))), rfl⟩)
    · skip
      refine v_iconst h0 d_B_isDigit_12 (v := nI 1) (by decide) ?_
      refine v_goto h0 d_B_isDigit_13 rfl ?_
      exact v_zret h0 hC hR (rfl) d_B_isDigit_17 (⟨ret_t (decide_eq_true ((kd_7 x).mpr ⟨i_nlt h3, i_nlt h9⟩)), rfl⟩)
set_option maxHeartbeats 4000000 in
theorem m_B_isName (l : Launch) (g : Gd) (hI : sI (sB g)) (M : Me) (x : Int32) : CB l g y_B_isName c_B_isName 1 (some .boolean) 1 [.int x] M (fun r M' => r = some (.int (bI (kdB 8 x))) ∧ M = M') := by
  refine Ct.of hI (sB_N0 g) rfl (Nat.le_of_ble_eq_true rfl) (fun K h0 hC hR hkl hn => ?_)
  have hC : Cx (sB g) K gC_B _ := hC
  show V K (wp (sB g)) M 0 [(0, .int x)] []
  refine v_iload_n h0 d_B_isName_0 0 rfl ?_
  refine v_bipush h0 d_B_isName_1 (v := nI 97) (by decide) ?_
  refine v_icmp_lt h0 d_B_isName_3 rfl (fun h3 => ?_) (fun h3 => ?_)
  · skip
    refine v_iconst h0 d_B_isName_16 (v := nI 0) (by decide) ?_
    exact v_zret h0 hC hR (rfl) d_B_isName_17 (⟨ret_f (decide_eq_false (fun q => absurd h3 (Int32.not_lt.mpr ((kd_8 x).mp q).1))), rfl⟩)
  · skip
    refine v_iload_n h0 d_B_isName_6 0 rfl ?_
    refine v_bipush h0 d_B_isName_7 (v := nI 106) (by decide) ?_
    refine v_icmp_gt h0 d_B_isName_9 rfl (fun h9 => ?_) (fun h9 => ?_)
    · skip
      refine v_iconst h0 d_B_isName_16 (v := nI 0) (by decide) ?_
      exact v_zret h0 hC hR (rfl) d_B_isName_17 (⟨ret_f (decide_eq_false (fun q => absurd h9 (Int32.not_lt.mpr ((kd_8 x).mp q).2))), rfl⟩)
    · skip
      refine v_iconst h0 d_B_isName_12 (v := nI 1) (by decide) ?_
      refine v_goto h0 d_B_isName_13 rfl ?_
      exact v_zret h0 hC hR (rfl) d_B_isName_17 (⟨ret_t (decide_eq_true ((kd_8 x).mpr ⟨i_nlt h3, i_nlt h9⟩)), rfl⟩)
set_option maxHeartbeats 4000000 in
theorem m_B_isLocal (l : Launch) (g : Gd) (hI : sI (sB g)) (M : Me) (x : Int32) : CB l g y_B_isLocal c_B_isLocal 1 (some .boolean) 1 [.int x] M (fun r M' => r = some (.int (bI (kdB 9 x))) ∧ M = M') := by
  refine Ct.of hI (sB_N0 g) rfl (Nat.le_of_ble_eq_true rfl) (fun K h0 hC hR hkl hn => ?_)
  have hC : Cx (sB g) K gC_B _ := hC
  show V K (wp (sB g)) M 0 [(0, .int x)] []
  refine v_iload_n h0 d_B_isLocal_0 0 rfl ?_
  refine v_bipush h0 d_B_isLocal_1 (v := nI 107) (by decide) ?_
  refine v_icmp_lt h0 d_B_isLocal_3 rfl (fun h3 => ?_) (fun h3 => ?_)
  · skip
    refine v_iconst h0 d_B_isLocal_16 (v := nI 0) (by decide) ?_
    exact v_zret h0 hC hR (rfl) d_B_isLocal_17 (⟨ret_f (decide_eq_false (fun q => absurd h3 (Int32.not_lt.mpr ((kd_9 x).mp q).1))), rfl⟩)
  · skip
    refine v_iload_n h0 d_B_isLocal_6 0 rfl ?_
    refine v_bipush h0 d_B_isLocal_7 (v := nI 112) (by decide) ?_
    refine v_icmp_gt h0 d_B_isLocal_9 rfl (fun h9 => ?_) (fun h9 => ?_)
    · skip
      refine v_iconst h0 d_B_isLocal_16 (v := nI 0) (by decide) ?_
      exact v_zret h0 hC hR (rfl) d_B_isLocal_17 (⟨ret_f (decide_eq_false (fun q => absurd h9 (Int32.not_lt.mpr ((kd_9 x).mp q).2))), rfl⟩)
    · skip
      refine v_iconst h0 d_B_isLocal_12 (v := nI 1) (by decide) ?_
      refine v_goto h0 d_B_isLocal_13 rfl ?_
      exact v_zret h0 hC hR (rfl) d_B_isLocal_17 (⟨ret_t (decide_eq_true ((kd_9 x).mpr ⟨i_nlt h3, i_nlt h9⟩)), rfl⟩)
set_option maxHeartbeats 4000000 in
theorem m_Mo_isCell (l : Launch) (g : Gd) (hI : sI (sR g)) (M : Me) (x : Int32) : CR l g y_Mo_isCell c_Mo_isCell 1 (some .boolean) 1 [.int x] M (fun r M' => r = some (.int (bI (inB x))) ∧ M = M') := by
  refine Ct.of hI (sR_N0 g) rfl (Nat.le_of_ble_eq_true rfl) (fun K h0 hC hR hkl hn => ?_)
  have hC : Cx (sR g) K gC_Mo _ := hC
  show V K (wp (sR g)) M 0 [(0, .int x)] []
  refine v_iload_n h0 d_Mo_isCell_0 0 rfl ?_
  refine v_if_lt h0 d_Mo_isCell_1 rfl (fun h1 => ?_) (fun h1 => ?_)
  · skip
    refine v_iconst h0 d_Mo_isCell_14 (v := nI 0) (by decide) ?_
    exact v_zret h0 hC hR (rfl) d_Mo_isCell_15 (⟨ret_f (decide_eq_false (fun q => absurd h1 (Int32.not_lt.mpr q.1))), rfl⟩)
  · skip
    refine v_iload_n h0 d_Mo_isCell_4 0 rfl ?_
    refine v_bipush h0 d_Mo_isCell_5 (v := nI 9) (by decide) ?_
    refine v_icmp_gt h0 d_Mo_isCell_7 rfl (fun h7 => ?_) (fun h7 => ?_)
    · skip
      refine v_iconst h0 d_Mo_isCell_14 (v := nI 0) (by decide) ?_
      exact v_zret h0 hC hR (rfl) d_Mo_isCell_15 (⟨ret_f (decide_eq_false (fun q => absurd h7 (Int32.not_le.mpr q.2))), rfl⟩)
    · skip
      refine v_iconst h0 d_Mo_isCell_10 (v := nI 1) (by decide) ?_
      refine v_goto h0 d_Mo_isCell_11 rfl ?_
      exact v_zret h0 hC hR (rfl) d_Mo_isCell_15 (⟨ret_t (decide_eq_true ⟨i_nlt h1, i_nle h7⟩), rfl⟩)
set_option maxHeartbeats 4000000 in
theorem m_Mo_isDigit (l : Launch) (g : Gd) (hI : sI (sR g)) (M : Me) (x : Int32) : CR l g y_Mo_isDigit c_Mo_isDigit 1 (some .boolean) 1 [.int x] M (fun r M' => r = some (.int (bI (kdB 7 x))) ∧ M = M') := by
  refine Ct.of hI (sR_N0 g) rfl (Nat.le_of_ble_eq_true rfl) (fun K h0 hC hR hkl hn => ?_)
  have hC : Cx (sR g) K gC_Mo _ := hC
  show V K (wp (sR g)) M 0 [(0, .int x)] []
  refine v_iload_n h0 d_Mo_isDigit_0 0 rfl ?_
  refine v_bipush h0 d_Mo_isDigit_1 (v := nI 48) (by decide) ?_
  refine v_icmp_lt h0 d_Mo_isDigit_3 rfl (fun h3 => ?_) (fun h3 => ?_)
  · skip
    refine v_iconst h0 d_Mo_isDigit_16 (v := nI 0) (by decide) ?_
    exact v_zret h0 hC hR (rfl) d_Mo_isDigit_17 (⟨ret_f (decide_eq_false (fun q => absurd h3 (Int32.not_lt.mpr ((kd_7 x).mp q).1))), rfl⟩)
  · skip
    refine v_iload_n h0 d_Mo_isDigit_6 0 rfl ?_
    refine v_bipush h0 d_Mo_isDigit_7 (v := nI 57) (by decide) ?_
    refine v_icmp_gt h0 d_Mo_isDigit_9 rfl (fun h9 => ?_) (fun h9 => ?_)
    · skip
      refine v_iconst h0 d_Mo_isDigit_16 (v := nI 0) (by decide) ?_
      exact v_zret h0 hC hR (rfl) d_Mo_isDigit_17 (⟨ret_f (decide_eq_false (fun q => absurd h9 (Int32.not_lt.mpr ((kd_7 x).mp q).2))), rfl⟩)
    · skip
      refine v_iconst h0 d_Mo_isDigit_12 (v := nI 1) (by decide) ?_
      refine v_goto h0 d_Mo_isDigit_13 rfl ?_
      exact v_zret h0 hC hR (rfl) d_Mo_isDigit_17 (⟨ret_t (decide_eq_true ((kd_7 x).mpr ⟨i_nlt h3, i_nlt h9⟩)), rfl⟩)
set_option maxHeartbeats 4000000 in
theorem m_Mo_isName (l : Launch) (g : Gd) (hI : sI (sR g)) (M : Me) (x : Int32) : CR l g y_Mo_isName c_Mo_isName 1 (some .boolean) 1 [.int x] M (fun r M' => r = some (.int (bI (kdB 8 x))) ∧ M = M') := by
  refine Ct.of hI (sR_N0 g) rfl (Nat.le_of_ble_eq_true rfl) (fun K h0 hC hR hkl hn => ?_)
  have hC : Cx (sR g) K gC_Mo _ := hC
  show V K (wp (sR g)) M 0 [(0, .int x)] []
  refine v_iload_n h0 d_Mo_isName_0 0 rfl ?_
  refine v_bipush h0 d_Mo_isName_1 (v := nI 97) (by decide) ?_
  refine v_icmp_lt h0 d_Mo_isName_3 rfl (fun h3 => ?_) (fun h3 => ?_)
  · skip
    refine v_iconst h0 d_Mo_isName_16 (v := nI 0) (by decide) ?_
    exact v_zret h0 hC hR (rfl) d_Mo_isName_17 (⟨ret_f (decide_eq_false (fun q => absurd h3 (Int32.not_lt.mpr ((kd_8 x).mp q).1))), rfl⟩)
  · skip
    refine v_iload_n h0 d_Mo_isName_6 0 rfl ?_
    refine v_bipush h0 d_Mo_isName_7 (v := nI 106) (by decide) ?_
    refine v_icmp_gt h0 d_Mo_isName_9 rfl (fun h9 => ?_) (fun h9 => ?_)
    · skip
      refine v_iconst h0 d_Mo_isName_16 (v := nI 0) (by decide) ?_
      exact v_zret h0 hC hR (rfl) d_Mo_isName_17 (⟨ret_f (decide_eq_false (fun q => absurd h9 (Int32.not_lt.mpr ((kd_8 x).mp q).2))), rfl⟩)
    · skip
      refine v_iconst h0 d_Mo_isName_12 (v := nI 1) (by decide) ?_
      refine v_goto h0 d_Mo_isName_13 rfl ?_
      exact v_zret h0 hC hR (rfl) d_Mo_isName_17 (⟨ret_t (decide_eq_true ((kd_8 x).mpr ⟨i_nlt h3, i_nlt h9⟩)), rfl⟩)
set_option maxHeartbeats 4000000 in
theorem m_Mo_isLocal (l : Launch) (g : Gd) (hI : sI (sR g)) (M : Me) (x : Int32) : CR l g y_Mo_isLocal c_Mo_isLocal 1 (some .boolean) 1 [.int x] M (fun r M' => r = some (.int (bI (kdB 9 x))) ∧ M = M') := by
  refine Ct.of hI (sR_N0 g) rfl (Nat.le_of_ble_eq_true rfl) (fun K h0 hC hR hkl hn => ?_)
  have hC : Cx (sR g) K gC_Mo _ := hC
  show V K (wp (sR g)) M 0 [(0, .int x)] []
  refine v_iload_n h0 d_Mo_isLocal_0 0 rfl ?_
  refine v_bipush h0 d_Mo_isLocal_1 (v := nI 107) (by decide) ?_
  refine v_icmp_lt h0 d_Mo_isLocal_3 rfl (fun h3 => ?_) (fun h3 => ?_)
  · skip
    refine v_iconst h0 d_Mo_isLocal_16 (v := nI 0) (by decide) ?_
    exact v_zret h0 hC hR (rfl) d_Mo_isLocal_17 (⟨ret_f (decide_eq_false (fun q => absurd h3 (Int32.not_lt.mpr ((kd_9 x).mp q).1))), rfl⟩)
  · skip
    refine v_iload_n h0 d_Mo_isLocal_6 0 rfl ?_
    refine v_bipush h0 d_Mo_isLocal_7 (v := nI 112) (by decide) ?_
    refine v_icmp_gt h0 d_Mo_isLocal_9 rfl (fun h9 => ?_) (fun h9 => ?_)
    · skip
      refine v_iconst h0 d_Mo_isLocal_16 (v := nI 0) (by decide) ?_
      exact v_zret h0 hC hR (rfl) d_Mo_isLocal_17 (⟨ret_f (decide_eq_false (fun q => absurd h9 (Int32.not_lt.mpr ((kd_9 x).mp q).2))), rfl⟩)
    · skip
      refine v_iconst h0 d_Mo_isLocal_12 (v := nI 1) (by decide) ?_
      refine v_goto h0 d_Mo_isLocal_13 rfl ?_
      exact v_zret h0 hC hR (rfl) d_Mo_isLocal_17 (⟨ret_t (decide_eq_true ((kd_9 x).mpr ⟨i_nlt h3, i_nlt h9⟩)), rfl⟩)
set_option maxHeartbeats 4000000 in
theorem m_B_hasBit (l : Launch) (g : Gd) (hI : sI (sB g)) (M : Me) (x : Int32) (i : Nat) (hi : i < 32) : CB l g y_B_hasBit c_B_hasBit 2 (some .boolean) 1 [.int x, .int (nI i)] M (fun r M' => r = some (.int (bI (bt x i))) ∧ M = M') := by
  refine Ct.of hI (sB_N0 g) rfl (Nat.le_of_ble_eq_true rfl) (fun K h0 hC hR hkl hn => ?_)
  have hC : Cx (sB g) K gC_B _ := hC
  show V K (wp (sB g)) M 0 [(0, .int x), (1, .int (nI i))] []
  refine v_iload_n h0 d_B_hasBit_0 0 rfl ?_
  refine v_iload_n h0 d_B_hasBit_1 1 rfl ?_
  refine v_ishr h0 d_B_hasBit_2 ?_
  refine v_iconst h0 d_B_hasBit_3 (v := nI 1) (by decide) ?_
  refine v_iand h0 d_B_hasBit_4 ?_
  refine v_int (bI (bt x i)) ((b_get x hi).trans rfl) ?_
  refine v_iconst h0 d_B_hasBit_5 (v := nI 1) (by decide) ?_
  refine v_icmp_ne h0 d_B_hasBit_6 rfl (fun h6 => ?_) (fun h6 => ?_)
  · skip
    refine v_iconst h0 d_B_hasBit_13 (v := nI 0) (by decide) ?_
    exact v_zret h0 hC hR (rfl) d_B_hasBit_14 (⟨ret_f (by cases hb : bt x i with | false => rfl | true => rw [hb] at h6; exact absurd rfl h6), rfl⟩)
  · skip
    refine v_iconst h0 d_B_hasBit_9 (v := nI 1) (by decide) ?_
    refine v_goto h0 d_B_hasBit_10 rfl ?_
    exact v_zret h0 hC hR (rfl) d_B_hasBit_14 (⟨ret_t (by cases hb : bt x i with | true => rfl | false => rw [hb] at h6; exact absurd h6 (by decide)), rfl⟩)
set_option maxHeartbeats 4000000 in
theorem m_Te_signAt (l : Launch) (g : Gd) (hI : sI (sB g)) (M : Me) {c n k : Nat} (hc : c < 10) (hn0 : n ≤ 24) (hk : k < 1000) (hl : M (17 + c) 2 = nI n) (hch : chS (M (27 + c))) : CB l g y_Te_signAt c_Te_signAt 2 (some .char) 1 [.ref (ga g (17 + c)), .int (nI k)] M (fun r M' => r = some (.int (sgA (M (27 + c)) n k)) ∧ M = M') := by
  refine Ct.of hI (sB_N0 g) rfl (Nat.le_of_ble_eq_true rfl) (fun K h0 hC hR hkl hn => ?_)
  have hC : Cx (sB g) K gC_Te _ := hC
  show V K (wp (sB g)) M 0 [(0, .ref (ga g (17 + c))), (1, .int (nI k))] []
  refine v_iload_n h0 d_Te_signAt_0 1 rfl ?_
  refine v_if_lt h0 d_Te_signAt_1 rfl (fun h1 => absurd h1 (nI_pos (by omega))) (fun h1 => ?_)
  refine v_iload_n h0 d_Te_signAt_4 1 rfl ?_
  refine v_aload_n h0 d_Te_signAt_5 0 rfl ?_
  refine g_Te_length h0 hC (by omega) wd_33 d_Te_signAt_6 ?_
  refine v_int (nI n) (hl) ?_
  refine n_icmp_ge h0 (by omega) (by omega) d_Te_signAt_9 rfl (fun h9 => ?_) (fun h9 => ?_)
  · skip
    refine v_iconst h0 d_Te_signAt_21 (v := nI 0) (by decide) ?_
    exact v_zret h0 hC hR (rfl) d_Te_signAt_22 (⟨by unfold sgA; rw [if_neg (by omega)]; rfl, rfl⟩)
  · skip
    refine v_aload_n h0 d_Te_signAt_12 0 rfl ?_
    refine g_Te_signs h0 hC (by omega) wd_31 d_Te_signAt_13 ?_
    refine v_iload_n h0 d_Te_signAt_16 1 rfl ?_
    refine a_B_signs h0 hC (by omega) k (rfl) (by omega) d_Te_signAt_17 ?_
    refine v_goto h0 d_Te_signAt_18 rfl ?_
    exact v_zret h0 hC hR (hch k (by omega)) d_Te_signAt_22 (⟨by unfold sgA; rw [if_pos h9], rfl⟩)
set_option maxHeartbeats 4000000 in
theorem m_Te_signAt_m (l : Launch) (g : Gd) (hI : sI (sB g)) (M : Me) {c : Nat} (hc : c < 10) : CB l g y_Te_signAt c_Te_signAt 2 (some .char) 1 [.ref (ga g (17 + c)), .int (-1)] M (fun r M' => r = some (.int (0)) ∧ M = M') := by
  refine Ct.of hI (sB_N0 g) rfl (Nat.le_of_ble_eq_true rfl) (fun K h0 hC hR hkl hn => ?_)
  have hC : Cx (sB g) K gC_Te _ := hC
  show V K (wp (sB g)) M 0 [(0, .ref (ga g (17 + c))), (1, .int (-1))] []
  refine v_iload_n h0 d_Te_signAt_0 1 rfl ?_
  refine v_if_lt h0 d_Te_signAt_1 rfl (fun h1 => ?_) (fun h1 => absurd h1 (by decide))
  refine v_iconst h0 d_Te_signAt_21 (v := nI 0) (by decide) ?_
  exact v_zret h0 hC hR (rfl) d_Te_signAt_22 (⟨rfl, rfl⟩)
set_option maxHeartbeats 4000000 in
theorem m_Te_endOf (l : Launch) (g : Gd) (hI : sI (sB g)) (M : Me) {c n k : Nat} (hc : c < 10) (hn0 : n ≤ 24) (hk : k < n) (hl : M (17 + c) 2 = nI n) : CB l g y_Te_endOf c_Te_endOf 2 (some .int) 1 [.ref (ga g (17 + c)), .int (nI k)] M (fun r M' => r = some (.int (M (37 + c) k)) ∧ M = M') := by
  refine Ct.of hI (sB_N0 g) rfl (Nat.le_of_ble_eq_true rfl) (fun K h0 hC hR hkl hn => ?_)
  have hC : Cx (sB g) K gC_Te _ := hC
  show V K (wp (sB g)) M 0 [(0, .ref (ga g (17 + c))), (1, .int (nI k))] []
  refine v_iload_n h0 d_Te_endOf_0 1 rfl ?_
  refine v_if_lt h0 d_Te_endOf_1 rfl (fun h1 => absurd h1 (nI_pos (by omega))) (fun h1 => ?_)
  refine v_iload_n h0 d_Te_endOf_4 1 rfl ?_
  refine v_aload_n h0 d_Te_endOf_5 0 rfl ?_
  refine g_Te_length h0 hC (by omega) wd_33 d_Te_endOf_6 ?_
  refine v_int (nI n) (hl) ?_
  refine n_icmp_ge h0 (by omega) (by omega) d_Te_endOf_9 rfl (fun h9 => absurd h9 (by omega)) (fun h9 => ?_)
  refine v_aload_n h0 d_Te_endOf_12 0 rfl ?_
  refine g_Te_ends h0 hC (by omega) wd_32 d_Te_endOf_13 ?_
  refine v_iload_n h0 d_Te_endOf_16 1 rfl ?_
  refine a_B_ends h0 hC (by omega) k (rfl) (by omega) d_Te_endOf_17 ?_
  refine v_goto h0 d_Te_endOf_18 rfl ?_
  exact v_iret h0 hC hR d_Te_endOf_25 (⟨rfl, rfl⟩)
set_option maxHeartbeats 4000000 in
theorem m_Te_localAt (l : Launch) (g : Gd) (hI : sI (sB g)) (M : Me) {c n k : Nat} (hc : c < 10) (hn0 : n ≤ 24) (hk : k < n) (hl : M (17 + c) 2 = nI n) (hch : chS (M (27 + c))) (h9 : kd (M (27 + c) k) = 9) : CB l g y_Te_localAt c_Te_localAt 3 (some .int) 2 [.ref (ga g (17 + c)), .int (nI k)] M (fun r M' => r = some (.int (nI (lcI (M (27 + c) k)))) ∧ M = M') := by
  refine Ct.of hI (sB_N0 g) rfl (Nat.le_of_ble_eq_true rfl) (fun K h0 hC hR hkl hn => ?_)
  have hC : Cx (sB g) K gC_Te _ := hC
  show V K (wp (sB g)) M 0 [(0, .ref (ga g (17 + c))), (1, .int (nI k))] []
  refine v_aload_n h0 d_Te_localAt_0 0 rfl ?_
  refine v_iload_n h0 d_Te_localAt_1 1 rfl ?_
  refine v_callV h0 hC (sB_N0 g) (17 + c) (show (17 + c) < 59 by omega) (eB_Te g (by omega) _) rfl (av := [.int (nI k)]) (rest := []) (m_Te_signAt (kl K) g hI M hc hn0 (by omega) hl hch) wd_197 wd_194 wd_195 wd_196 wd_3 hd_Te_signAt (by omega) (by decide) rfl rfl (Nat.le_of_ble_eq_true rfl) d_Te_localAt_2 (fun r9 M9 hp9 => ?_)
  obtain ⟨rfl, rfl⟩ := hp9
  refine v_r1 ?_
  refine v_int (M (27 + c) k) (if_pos hk) ?_
  refine v_istore_n h0 d_Te_localAt_5 (lv' := [(2, .int (M (27 + c) k)), (0, .ref (ga g (17 + c))), (1, .int (nI k))]) (lt_kn hn (by decide)) rfl ?_
  refine v_iload_n h0 d_Te_localAt_6 0 rfl ?_
  refine v_callSN h0 hC (sB_N0 g) (av := [.int (M (27 + c) k)]) (rest := []) (m_B_isLocal (kl K) g hI M _) wd_200 wn_23 wd_199 wd_1 hd_B_isLocal (by omega) (by decide) rfl rfl (Nat.le_of_ble_eq_true rfl) d_Te_localAt_7 (fun r9 M9 hp9 => ?_)
  obtain ⟨rfl, rfl⟩ := hp9
  refine v_r1 ?_
  refine b_if_eq h0 d_Te_localAt_10 rfl (fun h10 => absurd h10 (by rw [show kdB 9 (M (27 + c) k) = true from decide_eq_true h9]; decide)) (fun h10 => ?_)
  refine v_iload_n h0 d_Te_localAt_13 0 rfl ?_
  refine v_bipush h0 d_Te_localAt_14 (v := nI 107) (by decide) ?_
  refine v_isub h0 d_Te_localAt_16 ?_
  refine v_int (nI (lcI (M (27 + c) k))) ((lc_of h9).2) ?_
  refine v_goto h0 d_Te_localAt_17 rfl ?_
  exact v_iret h0 hC hR d_Te_localAt_21 (⟨rfl, rfl⟩)
set_option maxHeartbeats 4000000 in
theorem m_Te_isFunction (l : Launch) (g : Gd) (hI : sI (sB g)) (M : Me) {c : Nat} (hc : c < 10) : CB l g y_Te_isFunction c_Te_isFunction 1 (some .boolean) 1 [.ref (ga g (17 + c))] M (fun r M' => r = some (.int (bI (fuB M c))) ∧ M = M') := by
  refine Ct.of hI (sB_N0 g) rfl (Nat.le_of_ble_eq_true rfl) (fun K h0 hC hR hkl hn => ?_)
  have hC : Cx (sB g) K gC_Te _ := hC
  show V K (wp (sB g)) M 0 [(0, .ref (ga g (17 + c)))] []
  refine v_aload_n h0 d_Te_isFunction_0 0 rfl ?_
  refine g_Te_wellFormed h0 hC (by omega) wd_37 d_Te_isFunction_1 ?_
  refine v_if_eq h0 d_Te_isFunction_4 rfl (fun h4 => ?_) (fun h4 => ?_)
  · skip
    refine v_iconst h0 d_Te_isFunction_19 (v := nI 0) (by decide) ?_
    exact v_zret h0 hC hR (rfl) d_Te_isFunction_20 (⟨ret_f (decide_eq_false (fun q => q.1 h4)), rfl⟩)
  · skip
    refine v_aload_n h0 d_Te_isFunction_7 0 rfl ?_
    refine g_Te_start h0 hC (by omega) wd_34 d_Te_isFunction_8 ?_
    refine v_iconst h0 d_Te_isFunction_11 (v := nI 2) (by decide) ?_
    refine v_icmp_ne h0 d_Te_isFunction_12 rfl (fun h12 => ?_) (fun h12 => ?_)
    · skip
      refine v_iconst h0 d_Te_isFunction_19 (v := nI 0) (by decide) ?_
      exact v_zret h0 hC hR (rfl) d_Te_isFunction_20 (⟨ret_f (decide_eq_false (fun q => h12 q.2)), rfl⟩)
    · skip
      refine v_iconst h0 d_Te_isFunction_15 (v := nI 1) (by decide) ?_
      refine v_goto h0 d_Te_isFunction_16 rfl ?_
      exact v_zret h0 hC hR (rfl) d_Te_isFunction_20 (⟨ret_t (decide_eq_true ⟨h4, h12⟩), rfl⟩)
set_option maxHeartbeats 4000000 in
theorem m_Ce_isEmpty (l : Launch) (g : Gd) (hI : sI (sB g)) (M : Me) {c : Nat} (hc : c < 10) : CB l g y_Ce_isEmpty c_Ce_isEmpty 1 (some .boolean) 1 [.ref (ga g (7 + c))] M (fun r M' => r = some (.int (bI (decide (M (7 + c) 1 = -1)))) ∧ M = M') := by
  refine Ct.of hI (sB_N0 g) rfl (Nat.le_of_ble_eq_true rfl) (fun K h0 hC hR hkl hn => ?_)
  have hC : Cx (sB g) K gC_Ce _ := hC
  show V K (wp (sB g)) M 0 [(0, .ref (ga g (7 + c)))] []
  refine v_aload_n h0 d_Ce_isEmpty_0 0 rfl ?_
  refine g_Ce_name h0 hC (by omega) wd_60 d_Ce_isEmpty_1 ?_
  refine v_iconst h0 d_Ce_isEmpty_4 (v := -1) (by decide) ?_
  refine v_icmp_ne h0 d_Ce_isEmpty_5 rfl (fun h5 => ?_) (fun h5 => ?_)
  · skip
    refine v_iconst h0 d_Ce_isEmpty_12 (v := nI 0) (by decide) ?_
    exact v_zret h0 hC hR (rfl) d_Ce_isEmpty_13 (⟨ret_f (decide_eq_false h5), rfl⟩)
  · skip
    refine v_iconst h0 d_Ce_isEmpty_8 (v := nI 1) (by decide) ?_
    refine v_goto h0 d_Ce_isEmpty_9 rfl ?_
    exact v_zret h0 hC hR (rfl) d_Ce_isEmpty_13 (⟨ret_t (decide_eq_true h5), rfl⟩)
set_option maxHeartbeats 4000000 in
theorem m_Ce_nameBit (l : Launch) (g : Gd) (hI : sI (sB g)) (M : Me) {c : Nat} (hc : c < 10) : CB l g y_Ce_nameBit c_Ce_nameBit 1 (some .int) 2 [.ref (ga g (7 + c))] M (fun r M' => r = some (.int (nbI (M (7 + c) 1))) ∧ M = M') := by
  refine Ct.of hI (sB_N0 g) rfl (Nat.le_of_ble_eq_true rfl) (fun K h0 hC hR hkl hn => ?_)
  have hC : Cx (sB g) K gC_Ce _ := hC
  show V K (wp (sB g)) M 0 [(0, .ref (ga g (7 + c)))] []
  refine v_aload_n h0 d_Ce_nameBit_0 0 rfl ?_
  refine v_callV h0 hC (sB_N0 g) (7 + c) (show (7 + c) < 59 by omega) (eB_Ce g (by omega) _) rfl (av := []) (rest := []) (m_Ce_isEmpty (kl K) g hI M hc) wd_183 wd_180 wd_181 wd_182 wd_2 hd_Ce_isEmpty (by omega) (by decide) rfl rfl (Nat.le_of_ble_eq_true rfl) d_Ce_nameBit_1 (fun r9 M9 hp9 => ?_)
  obtain ⟨rfl, rfl⟩ := hp9
  refine v_r1 ?_
  refine b_if_eq h0 d_Ce_nameBit_4 rfl (fun h4 => ?_) (fun h4 => ?_)
  · skip
    refine v_iconst h0 d_Ce_nameBit_11 (v := nI 1) (by decide) ?_
    refine v_aload_n h0 d_Ce_nameBit_12 0 rfl ?_
    refine g_Ce_name h0 hC (by omega) wd_60 d_Ce_nameBit_13 ?_
    refine v_ishl h0 d_Ce_nameBit_16 ?_
    exact v_iret h0 hC hR d_Ce_nameBit_17 (⟨by unfold nbI; rw [if_neg (of_decide_eq_false h4)]; rfl, rfl⟩)
  · skip
    refine v_iconst h0 d_Ce_nameBit_7 (v := nI 0) (by decide) ?_
    refine v_goto h0 d_Ce_nameBit_8 rfl ?_
    exact v_iret h0 hC hR d_Ce_nameBit_17 (⟨by unfold nbI; rw [if_pos (of_decide_eq_true h4)]; rfl, rfl⟩)
set_option maxHeartbeats 4000000 in
theorem m_Ce_shown (l : Launch) (g : Gd) (hI : sI (sB g)) (M : Me) {c : Nat} (hc : c < 10) : CB l g y_Ce_shown c_Ce_shown 1 (some .int) 2 [.ref (ga g (7 + c))] M (fun r M' => r = some (.int (shI M c)) ∧ M = M') := by
  refine Ct.of hI (sB_N0 g) rfl (Nat.le_of_ble_eq_true rfl) (fun K h0 hC hR hkl hn => ?_)
  have hC : Cx (sB g) K gC_Ce _ := hC
  show V K (wp (sB g)) M 0 [(0, .ref (ga g (7 + c)))] []
  refine v_aload_n h0 d_Ce_shown_0 0 rfl ?_
  refine v_callV h0 hC (sB_N0 g) (7 + c) (show (7 + c) < 59 by omega) (eB_Ce g (by omega) _) rfl (av := []) (rest := []) (m_Ce_isEmpty (kl K) g hI M hc) wd_183 wd_180 wd_181 wd_182 wd_2 hd_Ce_isEmpty (by omega) (by decide) rfl rfl (Nat.le_of_ble_eq_true rfl) d_Ce_shown_1 (fun r9 M9 hp9 => ?_)
  obtain ⟨rfl, rfl⟩ := hp9
  refine v_r1 ?_
  refine b_if_eq h0 d_Ce_shown_4 rfl (fun h4 => ?_) (fun h4 => ?_)
  · skip
    refine v_aload_n h0 d_Ce_shown_9 0 rfl ?_
    refine g_Ce_fault h0 hC (by omega) wd_62 d_Ce_shown_10 ?_
    refine v_if_eq h0 d_Ce_shown_13 rfl (fun h13 => ?_) (fun h13 => ?_)
    · skip
      refine v_aload_n h0 d_Ce_shown_21 0 rfl ?_
      refine g_Ce_stale h0 hC (by omega) wd_64 d_Ce_shown_22 ?_
      refine v_if_eq h0 d_Ce_shown_25 rfl (fun h25 => ?_) (fun h25 => ?_)
      · skip
        refine v_aload_n h0 d_Ce_shown_33 0 rfl ?_
        refine g_Ce_result h0 hC (by omega) wd_66 d_Ce_shown_34 ?_
        exact v_iret h0 hC hR d_Ce_shown_37 (⟨by unfold shI; rw [if_neg (of_decide_eq_false h4), if_pos h13, if_pos h25], rfl⟩)
      · skip
        refine v_bipush h0 d_Ce_shown_28 (v := nI 12) (by decide) ?_
        refine v_goto h0 d_Ce_shown_30 rfl ?_
        exact v_iret h0 hC hR d_Ce_shown_37 (⟨by unfold shI; rw [if_neg (of_decide_eq_false h4), if_pos h13, if_neg h25]; rfl, rfl⟩)
    · skip
      refine v_aload_n h0 d_Ce_shown_16 0 rfl ?_
      refine g_Ce_fault h0 hC (by omega) wd_62 d_Ce_shown_17 ?_
      exact v_iret h0 hC hR d_Ce_shown_20 (⟨by unfold shI; rw [if_neg (of_decide_eq_false h4), if_neg h13], rfl⟩)
  · skip
    refine v_iconst h0 d_Ce_shown_7 (v := nI 0) (by decide) ?_
    exact v_iret h0 hC hR d_Ce_shown_8 (⟨by unfold shI; rw [if_pos (of_decide_eq_true h4)]; rfl, rfl⟩)
set_option maxHeartbeats 4000000 in
theorem m_Ce_isUsable (l : Launch) (g : Gd) (hI : sI (sB g)) (M : Me) {c : Nat} (hc : c < 10) : CB l g y_Ce_isUsable c_Ce_isUsable 2 (some .boolean) 3 [.ref (ga g (7 + c))] M (fun r M' => r = some (.int (bI (decide (shI M c = 14 ∨ shI M c = 13)))) ∧ M = M') := by
  refine Ct.of hI (sB_N0 g) rfl (Nat.le_of_ble_eq_true rfl) (fun K h0 hC hR hkl hn => ?_)
  have hC : Cx (sB g) K gC_Ce _ := hC
  show V K (wp (sB g)) M 0 [(0, .ref (ga g (7 + c)))] []
  refine v_aload_n h0 d_Ce_isUsable_0 0 rfl ?_
  refine v_callV h0 hC (sB_N0 g) (7 + c) (show (7 + c) < 59 by omega) (eB_Ce g (by omega) _) rfl (av := []) (rest := []) (m_Ce_shown (kl K) g hI M hc) wd_323 wd_320 wd_321 wd_322 wd_2 hd_Ce_shown (by omega) (by decide) rfl rfl (Nat.le_of_ble_eq_true rfl) d_Ce_isUsable_1 (fun r9 M9 hp9 => ?_)
  obtain ⟨rfl, rfl⟩ := hp9
  refine v_r1 ?_
  refine v_istore_n h0 d_Ce_isUsable_4 (lv' := [(1, .int (shI M c)), (0, .ref (ga g (7 + c)))]) (lt_kn hn (by decide)) rfl ?_
  refine v_iload_n h0 d_Ce_isUsable_5 0 rfl ?_
  refine v_bipush h0 d_Ce_isUsable_6 (v := nI 14) (by decide) ?_
  refine v_icmp_eq h0 d_Ce_isUsable_8 rfl (fun h8 => ?_) (fun h8 => ?_)
  · skip
    refine v_iconst h0 d_Ce_isUsable_17 (v := nI 1) (by decide) ?_
    refine v_goto h0 d_Ce_isUsable_18 rfl ?_
    exact v_zret h0 hC hR (rfl) d_Ce_isUsable_22 (⟨ret_t (decide_eq_true (Or.inl h8)), rfl⟩)
  · skip
    refine v_iload_n h0 d_Ce_isUsable_11 0 rfl ?_
    refine v_bipush h0 d_Ce_isUsable_12 (v := nI 13) (by decide) ?_
    refine v_icmp_ne h0 d_Ce_isUsable_14 rfl (fun h14 => ?_) (fun h14 => ?_)
    · skip
      refine v_iconst h0 d_Ce_isUsable_21 (v := nI 0) (by decide) ?_
      exact v_zret h0 hC hR (rfl) d_Ce_isUsable_22 (⟨ret_f (decide_eq_false (fun q => q.elim h8 h14)), rfl⟩)
    · skip
      refine v_iconst h0 d_Ce_isUsable_17 (v := nI 1) (by decide) ?_
      refine v_goto h0 d_Ce_isUsable_18 rfl ?_
      exact v_zret h0 hC hR (rfl) d_Ce_isUsable_22 (⟨ret_t (decide_eq_true (Or.inr h14)), rfl⟩)
set_option maxHeartbeats 4000000 in
theorem m_B_definerOf (l : Launch) (g : Gd) (hI : sI (sB g)) (M : Me) {x : Int32} (hx : kd x = 8) : CB l g y_B_definerOf c_B_definerOf 2 (some (.object "CellBook$Cell")) 2 [.ref (ga g 2), .int x] M (fun r M' => r = some (va_rf (dcC g (M 2 (nmI x)))) ∧ M = M') := by
  refine Ct.of hI (sB_N0 g) rfl (Nat.le_of_ble_eq_true rfl) (fun K h0 hC hR hkl hn => ?_)
  have hC : Cx (sB g) K gC_B _ := hC
  show V K (wp (sB g)) M 0 [(0, .ref (ga g 2)), (1, .int x)] []
  refine v_iload_n h0 d_B_definerOf_0 1 rfl ?_
  refine v_callS h0 hC (sB_N0 g) (av := [.int x]) (rest := []) (m_B_isName (kl K) g hI M _) wd_227 wd_350 wd_226 wd_1 hd_B_isName (by omega) (by decide) rfl rfl (Nat.le_of_ble_eq_true rfl) d_B_definerOf_1 (fun r9 M9 hp9 => ?_)
  obtain ⟨rfl, rfl⟩ := hp9
  refine v_r1 ?_
  refine b_if_eq h0 d_B_definerOf_4 rfl (fun h4 => absurd h4 (by rw [show kdB 8 x = true from decide_eq_true hx]; decide)) (fun h4 => ?_)
  refine v_aload_n h0 d_B_definerOf_7 0 rfl ?_
  refine v_iload_n h0 d_B_definerOf_8 1 rfl ?_
  refine v_bipush h0 d_B_definerOf_9 (v := nI 97) (by decide) ?_
  refine v_isub h0 d_B_definerOf_11 ?_
  refine a_B_defs h0 hC (nmI x) ((nm_of hx).2) ((nm_of hx).1) d_B_definerOf_12 ?_
  refine v_goto h0 d_B_definerOf_13 rfl ?_
  exact v_aret h0 hC hR (va_rf_or _) d_B_definerOf_17 (⟨rfl, rfl⟩)
