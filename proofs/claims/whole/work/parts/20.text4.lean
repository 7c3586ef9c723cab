/-! READING AN EXPRESSION, AND A TEXT (the book) -/
set_option maxHeartbeats 4000000 in
theorem rd_0 (l : Launch) (g : Gd) (hI : sI (sB g)) : RD l g 0 := by
  intro M c n k s e a bm b hc hk hT hbm
  have hn24 : n ≤ 24 := hT.2.2.2.2.2
  refine Ct.of hI (sB_N0 g) rfl (Nat.le_of_ble_eq_true rfl) (fun K h0 hC hR hkl hn => ?_)
  have hC : Cx (sB g) K gC_Te _ := hC
  subst hkl
  show V K (wp (sB g)) M 0 [(0, .ref (ga g (17 + c))), (1, .int (nI k)), (2, .int (nI (6 - 0))), (3, .int bm)] []
  refine v_iload_n h0 d_Te_readExpression_0 1 rfl ?_
  refine v_if_lt h0 d_Te_readExpression_1 rfl (fun h1 => absurd h1 (nI_pos (by omega))) (fun h1 => ?_)
  refine v_iload_n h0 d_Te_readExpression_4 1 rfl ?_
  refine v_aload_n h0 d_Te_readExpression_5 0 rfl ?_
  refine g_Te_length h0 hC (by omega) wd_33 d_Te_readExpression_6 ?_
  refine v_int (nI n) (hT.2.1) ?_
  refine n_icmp_ge h0 (by omega) (by omega) d_Te_readExpression_9 rfl (fun h9 => ?_) (fun h9 => ?_)
  · skip
    refine v_iconst h0 d_Te_readExpression_17 (v := -1) (by decide) ?_
    exact v_iret h0 hC hR d_Te_readExpression_18 (⟨a, e, hT.id, Or.inr ⟨rfl, rfl⟩⟩)
  · skip
    refine v_iload_n h0 d_Te_readExpression_12 2 rfl ?_
    refine v_iconst h0 d_Te_readExpression_13 (v := nI 5) (by decide) ?_
    refine n_icmp_le h0 (by omega) (by omega) d_Te_readExpression_14 rfl (fun h14 => absurd h14 (by omega)) (fun h14 => ?_)
    refine v_iconst h0 d_Te_readExpression_17 (v := -1) (by decide) ?_
    exact v_iret h0 hC hR d_Te_readExpression_18 (⟨a, e, hT.id, Or.inr ⟨rfl, rfl⟩⟩)
set_option maxHeartbeats 4000000 in
theorem rd_succ (l : Launch) (g : Gd) (hI : sI (sB g)) {d : Nat} (hd : d + 1 ≤ 6) (hRD : RD l g d) : RD l g (d + 1) := by
  intro M c n k s e a bm b hc hk hT hbm
  have hn24 : n ≤ 24 := hT.2.2.2.2.2
  refine Ct.of hI (sB_N0 g) rfl (Nat.le_of_ble_eq_true rfl) (fun K h0 hC hR hkl hn => ?_)
  have hC : Cx (sB g) K gC_Te _ := hC
  subst hkl
  show V K (wp (sB g)) M 0 [(0, .ref (ga g (17 + c))), (1, .int (nI k)), (2, .int (nI (6 - (d + 1)))), (3, .int bm)] []
  refine v_iload_n h0 d_Te_readExpression_0 1 rfl ?_
  refine v_if_lt h0 d_Te_readExpression_1 rfl (fun h1 => absurd h1 (nI_pos (by omega))) (fun h1 => ?_)
  refine v_iload_n h0 d_Te_readExpression_4 1 rfl ?_
  refine v_aload_n h0 d_Te_readExpression_5 0 rfl ?_
  refine g_Te_length h0 hC (by omega) wd_33 d_Te_readExpression_6 ?_
  refine v_int (nI n) (hT.2.1) ?_
  refine n_icmp_ge h0 (by omega) (by omega) d_Te_readExpression_9 rfl (fun h9 => ?_) (fun h9 => ?_)
  · skip
    refine v_iconst h0 d_Te_readExpression_17 (v := -1) (by decide) ?_
    exact v_iret h0 hC hR d_Te_readExpression_18 (⟨a, e, hT.id, Or.inr ⟨by simp only [OK, decide_eq_false (Nat.not_lt.mpr h9), Bool.false_and], rfl⟩⟩)
  · skip
    refine v_iload_n h0 d_Te_readExpression_12 2 rfl ?_
    refine v_iconst h0 d_Te_readExpression_13 (v := nI 5) (by decide) ?_
    refine n_icmp_le h0 (by omega) (by omega) d_Te_readExpression_14 rfl (fun h14 => ?_) (fun h14 => absurd h14 (by omega))
    refine v_aload_n h0 d_Te_readExpression_19 0 rfl ?_
    refine v_iload_n h0 d_Te_readExpression_20 1 rfl ?_
    refine v_iload_n h0 d_Te_readExpression_21 2 rfl ?_
    refine v_iconst h0 d_Te_readExpression_22 (v := nI 1) (by decide) ?_
    refine v_iadd h0 d_Te_readExpression_23 ?_
    refine v_int (nI (6 - (d + 1) + 1)) (nI_add (6 - (d + 1)) 1) ?_
    refine v_int (nI (6 - d)) (sub_lev hd) ?_
    refine v_iload_n h0 d_Te_readExpression_24 3 rfl ?_
    refine v_callV h0 hC (sB_N0 g) (17 + c) (show (17 + c) < 59 by omega) (eB_Te g (by omega) _) rfl (av := [.int (nI k), .int (nI (6 - d)), .int bm]) (rest := []) (m_Te_readSign (kl K) g hI M hc h9 (by omega) hT hbm hRD) wd_212 wd_209 wd_211 ws_1 wd_3 hd_Te_readSign (by omega) (by decide) rfl rfl (Nat.le_of_ble_eq_true rfl) d_Te_readExpression_25 (fun r9 M9 hp9 => ?_)
    obtain ⟨a1, e1, rfl, hq9⟩ := hp9
    rcases hq9 with ⟨q1, rfl, rfl, q4, q5⟩ | ⟨q1, rfl⟩
    · skip
      refine v_r1 ?_
      refine v_istore h0 d_Te_readExpression_28 (lv' := [(4, .int (nI (EN s (d + 1) k))), (0, .ref (ga g (17 + c))), (1, .int (nI k)), (2, .int (nI (6 - (d + 1)))), (3, .int bm)]) (lt_kn hn (by decide)) rfl ?_
      refine v_aload_n h0 d_Te_readExpression_30 1 rfl ?_
      refine g_Te_ends h0 hC (by omega) wd_32 d_Te_readExpression_31 ?_
      refine v_iload_n h0 d_Te_readExpression_34 2 rfl ?_
      refine v_iload h0 d_Te_readExpression_35 0 rfl ?_
      refine s_B_ends h0 hC (by omega) k (rfl) (z := nI (EN s (d + 1) k)) (rfl) (by omega) d_Te_readExpression_37 ?_
      refine v_iload h0 d_Te_readExpression_38 0 rfl ?_
      exact v_iret h0 hC hR d_Te_readExpression_40 (⟨_, _, rdM_en _ _ _ _ _ _, Or.inl ⟨q1, rfl, rfl, q4, fun j hj => by have hE := OK_ends s n _ _ _ q1; rw [pk_un (by omega)]; exact q5 j (by omega)⟩⟩)
    · skip
      refine v_r1 ?_
      refine v_istore h0 d_Te_readExpression_28 (lv' := [(4, .int (-1)), (0, .ref (ga g (17 + c))), (1, .int (nI k)), (2, .int (nI (6 - (d + 1)))), (3, .int bm)]) (lt_kn hn (by decide)) rfl ?_
      refine v_aload_n h0 d_Te_readExpression_30 1 rfl ?_
      refine g_Te_ends h0 hC (by omega) wd_32 d_Te_readExpression_31 ?_
      refine v_iload_n h0 d_Te_readExpression_34 2 rfl ?_
      refine v_iload h0 d_Te_readExpression_35 0 rfl ?_
      refine s_B_ends h0 hC (by omega) k (rfl) (z := -1) (rfl) (by omega) d_Te_readExpression_37 ?_
      refine v_iload h0 d_Te_readExpression_38 0 rfl ?_
      exact v_iret h0 hC hR d_Te_readExpression_40 (⟨_, _, rdM_en _ _ _ _ _ _, Or.inr ⟨q1, rfl⟩⟩)
theorem rd_all (l : Launch) (g : Gd) (hI : sI (sB g)) : ∀ d, d ≤ 6 → RD l g d := by
  intro d
  induction d with
  | zero => intro _; exact rd_0 l g hI
  | succ d ih => intro hd; exact rd_succ l g hI hd (ih (by omega))
