/-! THE REFERENCE'S EVALUATOR: one step -/
set_option maxHeartbeats 4000000 in
theorem m_Mo_goOn_7 (l : Launch) (g : Gd) (hI : sI (sR g)) (M : Me) {s : Nat → Int32} {c n k o : Nat} (hc : c < 10) (hT : TR M c s n) (hk : k < n) (ho : M 0 25 = nI (o + 1)) (ho3 : o < 300) (h17 : M 17 o = nI c) (h18 : M 18 o = nI k) (hx : kd (s k) = 7) (h19 : M 19 o = nI 0)  : CR l g y_Mo_goOn c_Mo_goOn 6 none 3 [.ref (ga g 0)] M (fun r M' => r = none ∧ M' = lvM (up2 M 19 o (nI 1)) (s k - 48) o) := by
  refine Ct.of hI (sR_N0 g) rfl (Nat.le_of_ble_eq_true rfl) (fun K h0 hC hR hkl hn => ?_)
  have hC : Cx (sR g) K gC_Mo _ := hC
  show V K (wp (sR g)) M 0 [(0, .ref (ga g 0))] []
  refine v_aload_n h0 d_Mo_goOn_0 0 rfl ?_
  refine g_Mo_open_ h0 hC wd_473 d_Mo_goOn_1 ?_
  have hn24 := hT.2.1
  refine v_int (nI (o + 1)) (ho) ?_
  refine v_iconst h0 d_Mo_goOn_4 (v := nI 1) (by decide) ?_
  refine v_isub h0 d_Mo_goOn_5 ?_
  refine v_int (nI o) (pred1 o) ?_
  refine v_istore_n h0 d_Mo_goOn_6 (lv' := [(1, .int (nI o)), (0, .ref (ga g 0))]) (lt_kn hn (by decide)) rfl ?_
  refine v_aload_n h0 d_Mo_goOn_7 1 rfl ?_
  refine g_Mo_cellAt_ h0 hC wd_469 d_Mo_goOn_8 ?_
  refine v_iload_n h0 d_Mo_goOn_11 0 rfl ?_
  refine a_Mo_cellAt_ h0 hC o (rfl) (by omega) d_Mo_goOn_12 ?_
  refine v_int (nI c) (h17) ?_
  refine v_istore_n h0 d_Mo_goOn_13 (lv' := [(2, .int (nI c)), (1, .int (nI o)), (0, .ref (ga g 0))]) (lt_kn hn (by decide)) rfl ?_
  refine v_aload_n h0 d_Mo_goOn_14 2 rfl ?_
  refine g_Mo_at_ h0 hC wd_470 d_Mo_goOn_15 ?_
  refine v_iload_n h0 d_Mo_goOn_18 1 rfl ?_
  refine a_Mo_at_ h0 hC o (rfl) (by omega) d_Mo_goOn_19 ?_
  refine v_int (nI k) (h18) ?_
  refine v_istore_n h0 d_Mo_goOn_20 (lv' := [(3, .int (nI k)), (2, .int (nI c)), (1, .int (nI o)), (0, .ref (ga g 0))]) (lt_kn hn (by decide)) rfl ?_
  refine v_aload_n h0 d_Mo_goOn_21 3 rfl ?_
  refine v_iload_n h0 d_Mo_goOn_22 1 rfl ?_
  refine v_iload_n h0 d_Mo_goOn_23 0 rfl ?_
  refine v_callV h0 hC (sR_N0 g) 0 (show 0 < 22 by omega) (show enR g 0 _ = _ from rfl) rfl (av := [.int (nI c), .int (nI k)]) (rest := []) (m_Mo_charAt (kl K) g hI M hc (by omega) hT) wd_564 wd_561 wd_563 ws_32 wd_6 hd_Mo_charAt (by omega) (by decide) rfl rfl (Nat.le_of_ble_eq_true rfl) d_Mo_goOn_24 (fun r9 M9 hp9 => ?_)
  obtain ⟨rfl, rfl⟩ := hp9
  refine v_r1 ?_
  refine v_int (s k) (if_pos hk) ?_
  refine v_istore h0 d_Mo_goOn_27 (lv' := [(4, .int (s k)), (3, .int (nI k)), (2, .int (nI c)), (1, .int (nI o)), (0, .ref (ga g 0))]) (lt_kn hn (by decide)) rfl ?_
  refine v_aload_n h0 d_Mo_goOn_29 4 rfl ?_
  refine g_Mo_stage_ h0 hC wd_471 d_Mo_goOn_30 ?_
  refine v_iload_n h0 d_Mo_goOn_33 3 rfl ?_
  refine a_Mo_stage_ h0 hC o (rfl) (by omega) d_Mo_goOn_34 ?_
  refine v_int (nI 0) (h19) ?_
  refine v_istore h0 d_Mo_goOn_35 (lv' := [(5, .int (nI 0)), (4, .int (s k)), (3, .int (nI k)), (2, .int (nI c)), (1, .int (nI o)), (0, .ref (ga g 0))]) (lt_kn hn (by decide)) rfl ?_
  refine v_aload_n h0 d_Mo_goOn_37 5 rfl ?_
  refine g_Mo_stage_ h0 hC wd_471 d_Mo_goOn_38 ?_
  refine v_iload_n h0 d_Mo_goOn_41 4 rfl ?_
  refine v_iload h0 d_Mo_goOn_42 0 rfl ?_
  refine v_iconst h0 d_Mo_goOn_44 (v := nI 1) (by decide) ?_
  refine v_iadd h0 d_Mo_goOn_45 ?_
  refine v_int (nI (0 + 1)) (nI_add 0 1) ?_
  refine v_int (nI 1) (rfl) ?_
  refine s_Mo_stage_ h0 hC o (rfl) (z := nI 1) (rfl) (by omega) d_Mo_goOn_46 ?_
  refine v_iload h0 d_Mo_goOn_47 1 rfl ?_
  refine v_callS h0 hC (sR_N0 g) (av := [.int (s k)]) (rest := []) (m_Mo_isDigit (kl K) g hI _ _) wd_574 wd_572 wd_573 wd_6 hd_Mo_isDigit (by omega) (by decide) rfl rfl (Nat.le_of_ble_eq_true rfl) d_Mo_goOn_49 (fun r9 M9 hp9 => ?_)
  obtain ⟨rfl, rfl⟩ := hp9
  refine v_r1 ?_
  refine b_if_eq h0 d_Mo_goOn_52 rfl (fun h52 => absurd h52 (by unfold kdB; rw [hx]; decide)) (fun h52 => ?_)
  refine v_aload_n h0 d_Mo_goOn_55 5 rfl ?_
  refine v_iload h0 d_Mo_goOn_56 1 rfl ?_
  refine v_bipush h0 d_Mo_goOn_58 (v := 48) (by decide) ?_
  refine v_isub h0 d_Mo_goOn_60 ?_
  refine v_callV h0 hC (sR_N0 g) 0 (show 0 < 22 by omega) (show enR g 0 _ = _ from rfl) rfl (av := [.int ((s k) - 48)]) (rest := []) (m_Mo_leave (kl K) g hI (up2 M 19 o (nI 1)) _ (by rw [up2_n _ _ (by omega)]; exact ho)) wd_687 wd_684 wd_686 ws_57 wd_6 hd_Mo_leave (by omega) (by decide) rfl rfl (Nat.le_of_ble_eq_true rfl) d_Mo_goOn_61 (fun r9 M9 hp9 => ?_)
  obtain ⟨rfl, rfl⟩ := hp9
  refine v_r0 ?_
  refine v_goto h0 d_Mo_goOn_64 rfl ?_
  exact v_vret h0 hC hR d_Mo_goOn_348 (⟨rfl, rfl⟩)
set_option maxHeartbeats 4000000 in
theorem m_Mo_goOn_8 (l : Launch) (g : Gd) (hI : sI (sR g)) (M : Me) {s : Nat → Int32} {c n k o : Nat} (hc : c < 10) (hT : TR M c s n) (hk : k < n) (ho : M 0 25 = nI (o + 1)) (ho3 : o < 300) (h17 : M 17 o = nI c) (h18 : M 18 o = nI k) (hx : kd (s k) = 8) (h19 : M 19 o = nI 0) {β : Me} (hTx : TxR M β) (hj : ¬ dfL β (nmI (s k)) 10 < 0) : CR l g y_Mo_goOn c_Mo_goOn 6 none 3 [.ref (ga g 0)] M (fun r M' => r = none ∧ M' = lvM (up2 M 19 o (nI 1)) (M 11 (dfN β (nmI (s k)))) o) := by
  refine Ct.of hI (sR_N0 g) rfl (Nat.le_of_ble_eq_true rfl) (fun K h0 hC hR hkl hn => ?_)
  have hC : Cx (sR g) K gC_Mo _ := hC
  show V K (wp (sR g)) M 0 [(0, .ref (ga g 0))] []
  refine v_aload_n h0 d_Mo_goOn_0 0 rfl ?_
  refine g_Mo_open_ h0 hC wd_473 d_Mo_goOn_1 ?_
  have hn24 := hT.2.1
  refine v_int (nI (o + 1)) (ho) ?_
  refine v_iconst h0 d_Mo_goOn_4 (v := nI 1) (by decide) ?_
  refine v_isub h0 d_Mo_goOn_5 ?_
  refine v_int (nI o) (pred1 o) ?_
  refine v_istore_n h0 d_Mo_goOn_6 (lv' := [(1, .int (nI o)), (0, .ref (ga g 0))]) (lt_kn hn (by decide)) rfl ?_
  refine v_aload_n h0 d_Mo_goOn_7 1 rfl ?_
  refine g_Mo_cellAt_ h0 hC wd_469 d_Mo_goOn_8 ?_
  refine v_iload_n h0 d_Mo_goOn_11 0 rfl ?_
  refine a_Mo_cellAt_ h0 hC o (rfl) (by omega) d_Mo_goOn_12 ?_
  refine v_int (nI c) (h17) ?_
  refine v_istore_n h0 d_Mo_goOn_13 (lv' := [(2, .int (nI c)), (1, .int (nI o)), (0, .ref (ga g 0))]) (lt_kn hn (by decide)) rfl ?_
  refine v_aload_n h0 d_Mo_goOn_14 2 rfl ?_
  refine g_Mo_at_ h0 hC wd_470 d_Mo_goOn_15 ?_
  refine v_iload_n h0 d_Mo_goOn_18 1 rfl ?_
  refine a_Mo_at_ h0 hC o (rfl) (by omega) d_Mo_goOn_19 ?_
  refine v_int (nI k) (h18) ?_
  refine v_istore_n h0 d_Mo_goOn_20 (lv' := [(3, .int (nI k)), (2, .int (nI c)), (1, .int (nI o)), (0, .ref (ga g 0))]) (lt_kn hn (by decide)) rfl ?_
  refine v_aload_n h0 d_Mo_goOn_21 3 rfl ?_
  refine v_iload_n h0 d_Mo_goOn_22 1 rfl ?_
  refine v_iload_n h0 d_Mo_goOn_23 0 rfl ?_
  refine v_callV h0 hC (sR_N0 g) 0 (show 0 < 22 by omega) (show enR g 0 _ = _ from rfl) rfl (av := [.int (nI c), .int (nI k)]) (rest := []) (m_Mo_charAt (kl K) g hI M hc (by omega) hT) wd_564 wd_561 wd_563 ws_32 wd_6 hd_Mo_charAt (by omega) (by decide) rfl rfl (Nat.le_of_ble_eq_true rfl) d_Mo_goOn_24 (fun r9 M9 hp9 => ?_)
  obtain ⟨rfl, rfl⟩ := hp9
  refine v_r1 ?_
  refine v_int (s k) (if_pos hk) ?_
  refine v_istore h0 d_Mo_goOn_27 (lv' := [(4, .int (s k)), (3, .int (nI k)), (2, .int (nI c)), (1, .int (nI o)), (0, .ref (ga g 0))]) (lt_kn hn (by decide)) rfl ?_
  refine v_aload_n h0 d_Mo_goOn_29 4 rfl ?_
  refine g_Mo_stage_ h0 hC wd_471 d_Mo_goOn_30 ?_
  refine v_iload_n h0 d_Mo_goOn_33 3 rfl ?_
  refine a_Mo_stage_ h0 hC o (rfl) (by omega) d_Mo_goOn_34 ?_
  refine v_int (nI 0) (h19) ?_
  refine v_istore h0 d_Mo_goOn_35 (lv' := [(5, .int (nI 0)), (4, .int (s k)), (3, .int (nI k)), (2, .int (nI c)), (1, .int (nI o)), (0, .ref (ga g 0))]) (lt_kn hn (by decide)) rfl ?_
  refine v_aload_n h0 d_Mo_goOn_37 5 rfl ?_
  refine g_Mo_stage_ h0 hC wd_471 d_Mo_goOn_38 ?_
  refine v_iload_n h0 d_Mo_goOn_41 4 rfl ?_
  refine v_iload h0 d_Mo_goOn_42 0 rfl ?_
  refine v_iconst h0 d_Mo_goOn_44 (v := nI 1) (by decide) ?_
  refine v_iadd h0 d_Mo_goOn_45 ?_
  refine v_int (nI (0 + 1)) (nI_add 0 1) ?_
  refine v_int (nI 1) (rfl) ?_
  refine s_Mo_stage_ h0 hC o (rfl) (z := nI 1) (rfl) (by omega) d_Mo_goOn_46 ?_
  refine v_iload h0 d_Mo_goOn_47 1 rfl ?_
  refine v_callS h0 hC (sR_N0 g) (av := [.int (s k)]) (rest := []) (m_Mo_isDigit (kl K) g hI _ _) wd_574 wd_572 wd_573 wd_6 hd_Mo_isDigit (by omega) (by decide) rfl rfl (Nat.le_of_ble_eq_true rfl) d_Mo_goOn_49 (fun r9 M9 hp9 => ?_)
  obtain ⟨rfl, rfl⟩ := hp9
  refine v_r1 ?_
  refine b_if_eq h0 d_Mo_goOn_52 rfl (fun h52 => ?_) (fun h52 => absurd h52 (by unfold kdB; rw [hx]; decide))
  refine v_iload h0 d_Mo_goOn_67 1 rfl ?_
  refine v_callS h0 hC (sR_N0 g) (av := [.int (s k)]) (rest := []) (m_Mo_isName (kl K) g hI _ _) wd_581 wd_579 wd_580 wd_6 hd_Mo_isName (by omega) (by decide) rfl rfl (Nat.le_of_ble_eq_true rfl) d_Mo_goOn_69 (fun r9 M9 hp9 => ?_)
  obtain ⟨rfl, rfl⟩ := hp9
  refine v_r1 ?_
  refine b_if_eq h0 d_Mo_goOn_72 rfl (fun h72 => absurd h72 (by unfold kdB; rw [hx]; decide)) (fun h72 => ?_)
  refine v_aload_n h0 d_Mo_goOn_75 5 rfl ?_
  refine v_aload_n h0 d_Mo_goOn_76 5 rfl ?_
  refine g_Mo_valueOf_ h0 hC wd_459 d_Mo_goOn_77 ?_
  refine v_aload_n h0 d_Mo_goOn_80 5 rfl ?_
  refine v_iload h0 d_Mo_goOn_81 1 rfl ?_
  refine v_bipush h0 d_Mo_goOn_83 (v := nI 97) (by decide) ?_
  refine v_isub h0 d_Mo_goOn_85 ?_
  refine v_int (nI (nmI (s k))) ((nm_of hx).2) ?_
  refine v_callV h0 hC (sR_N0 g) 0 (show 0 < 22 by omega) (show enR g 0 _ = _ from rfl) rfl (av := [.int (nI (nmI (s k)))]) (rest := [.ref (ga g 11), .ref (ga g 0)]) (m_Mo_definer (kl K) g hI _ (fun c hc => (up2_n _ _ (by omega)).trans (hTx c hc).1) _) wd_631 wd_628 wd_630 ws_43 wd_6 hd_Mo_definer (by omega) (by decide) rfl rfl (Nat.le_of_ble_eq_true rfl) d_Mo_goOn_86 (fun r9 M9 hp9 => ?_)
  obtain ⟨rfl, rfl⟩ := hp9
  refine v_r1 ?_
  refine v_int (nI (dfN β (nmI (s k)))) ((df_def hj).2.1) ?_
  refine a_Mo_valueOf_ h0 hC (dfN β (nmI (s k))) (rfl) ((df_def hj).1) d_Mo_goOn_89 ?_
  refine v_int (M 11 (dfN β (nmI (s k)))) (up2_n _ _ (by omega)) ?_
  refine v_callV h0 hC (sR_N0 g) 0 (show 0 < 22 by omega) (show enR g 0 _ = _ from rfl) rfl (av := [.int (M 11 (dfN β (nmI (s k))))]) (rest := []) (m_Mo_leave (kl K) g hI (up2 M 19 o (nI 1)) _ (by rw [up2_n _ _ (by omega)]; exact ho)) wd_687 wd_684 wd_686 ws_57 wd_6 hd_Mo_leave (by omega) (by decide) rfl rfl (Nat.le_of_ble_eq_true rfl) d_Mo_goOn_90 (fun r9 M9 hp9 => ?_)
  obtain ⟨rfl, rfl⟩ := hp9
  refine v_r0 ?_
  refine v_goto h0 d_Mo_goOn_93 rfl ?_
  exact v_vret h0 hC hR d_Mo_goOn_348 (⟨rfl, rfl⟩)
set_option maxHeartbeats 4000000 in
theorem m_Mo_goOn_9 (l : Launch) (g : Gd) (hI : sI (sR g)) (M : Me) {s : Nat → Int32} {c n k o : Nat} (hc : c < 10) (hT : TR M c s n) (hk : k < n) (ho : M 0 25 = nI (o + 1)) (ho3 : o < 300) (h17 : M 17 o = nI c) (h18 : M 18 o = nI k) (hx : kd (s k) = 9) (h19 : M 19 o = nI 0) {dp : Nat} (hd : M 0 27 = nI dp) (hdp : dp ≤ 5) : CR l g y_Mo_goOn c_Mo_goOn 6 none 3 [.ref (ga g 0)] M (fun r M' => r = none ∧ M' = lvM (up2 M 19 o (nI 1)) (M 21 (6 * dp + lcI (s k))) o) := by
  refine Ct.of hI (sR_N0 g) rfl (Nat.le_of_ble_eq_true rfl) (fun K h0 hC hR hkl hn => ?_)
  have hC : Cx (sR g) K gC_Mo _ := hC
  show V K (wp (sR g)) M 0 [(0, .ref (ga g 0))] []
  refine v_aload_n h0 d_Mo_goOn_0 0 rfl ?_
  refine g_Mo_open_ h0 hC wd_473 d_Mo_goOn_1 ?_
  have hn24 := hT.2.1
  refine v_int (nI (o + 1)) (ho) ?_
  refine v_iconst h0 d_Mo_goOn_4 (v := nI 1) (by decide) ?_
  refine v_isub h0 d_Mo_goOn_5 ?_
  refine v_int (nI o) (pred1 o) ?_
  refine v_istore_n h0 d_Mo_goOn_6 (lv' := [(1, .int (nI o)), (0, .ref (ga g 0))]) (lt_kn hn (by decide)) rfl ?_
  refine v_aload_n h0 d_Mo_goOn_7 1 rfl ?_
  refine g_Mo_cellAt_ h0 hC wd_469 d_Mo_goOn_8 ?_
  refine v_iload_n h0 d_Mo_goOn_11 0 rfl ?_
  refine a_Mo_cellAt_ h0 hC o (rfl) (by omega) d_Mo_goOn_12 ?_
  refine v_int (nI c) (h17) ?_
  refine v_istore_n h0 d_Mo_goOn_13 (lv' := [(2, .int (nI c)), (1, .int (nI o)), (0, .ref (ga g 0))]) (lt_kn hn (by decide)) rfl ?_
  refine v_aload_n h0 d_Mo_goOn_14 2 rfl ?_
  refine g_Mo_at_ h0 hC wd_470 d_Mo_goOn_15 ?_
  refine v_iload_n h0 d_Mo_goOn_18 1 rfl ?_
  refine a_Mo_at_ h0 hC o (rfl) (by omega) d_Mo_goOn_19 ?_
  refine v_int (nI k) (h18) ?_
  refine v_istore_n h0 d_Mo_goOn_20 (lv' := [(3, .int (nI k)), (2, .int (nI c)), (1, .int (nI o)), (0, .ref (ga g 0))]) (lt_kn hn (by decide)) rfl ?_
  refine v_aload_n h0 d_Mo_goOn_21 3 rfl ?_
  refine v_iload_n h0 d_Mo_goOn_22 1 rfl ?_
  refine v_iload_n h0 d_Mo_goOn_23 0 rfl ?_
  refine v_callV h0 hC (sR_N0 g) 0 (show 0 < 22 by omega) (show enR g 0 _ = _ from rfl) rfl (av := [.int (nI c), .int (nI k)]) (rest := []) (m_Mo_charAt (kl K) g hI M hc (by omega) hT) wd_564 wd_561 wd_563 ws_32 wd_6 hd_Mo_charAt (by omega) (by decide) rfl rfl (Nat.le_of_ble_eq_true rfl) d_Mo_goOn_24 (fun r9 M9 hp9 => ?_)
  obtain ⟨rfl, rfl⟩ := hp9
  refine v_r1 ?_
  refine v_int (s k) (if_pos hk) ?_
  refine v_istore h0 d_Mo_goOn_27 (lv' := [(4, .int (s k)), (3, .int (nI k)), (2, .int (nI c)), (1, .int (nI o)), (0, .ref (ga g 0))]) (lt_kn hn (by decide)) rfl ?_
  refine v_aload_n h0 d_Mo_goOn_29 4 rfl ?_
  refine g_Mo_stage_ h0 hC wd_471 d_Mo_goOn_30 ?_
  refine v_iload_n h0 d_Mo_goOn_33 3 rfl ?_
  refine a_Mo_stage_ h0 hC o (rfl) (by omega) d_Mo_goOn_34 ?_
  refine v_int (nI 0) (h19) ?_
  refine v_istore h0 d_Mo_goOn_35 (lv' := [(5, .int (nI 0)), (4, .int (s k)), (3, .int (nI k)), (2, .int (nI c)), (1, .int (nI o)), (0, .ref (ga g 0))]) (lt_kn hn (by decide)) rfl ?_
  refine v_aload_n h0 d_Mo_goOn_37 5 rfl ?_
  refine g_Mo_stage_ h0 hC wd_471 d_Mo_goOn_38 ?_
  refine v_iload_n h0 d_Mo_goOn_41 4 rfl ?_
  refine v_iload h0 d_Mo_goOn_42 0 rfl ?_
  refine v_iconst h0 d_Mo_goOn_44 (v := nI 1) (by decide) ?_
  refine v_iadd h0 d_Mo_goOn_45 ?_
  refine v_int (nI (0 + 1)) (nI_add 0 1) ?_
  refine v_int (nI 1) (rfl) ?_
  refine s_Mo_stage_ h0 hC o (rfl) (z := nI 1) (rfl) (by omega) d_Mo_goOn_46 ?_
  refine v_iload h0 d_Mo_goOn_47 1 rfl ?_
  refine v_callS h0 hC (sR_N0 g) (av := [.int (s k)]) (rest := []) (m_Mo_isDigit (kl K) g hI _ _) wd_574 wd_572 wd_573 wd_6 hd_Mo_isDigit (by omega) (by decide) rfl rfl (Nat.le_of_ble_eq_true rfl) d_Mo_goOn_49 (fun r9 M9 hp9 => ?_)
  obtain ⟨rfl, rfl⟩ := hp9
  refine v_r1 ?_
  refine b_if_eq h0 d_Mo_goOn_52 rfl (fun h52 => ?_) (fun h52 => absurd h52 (by unfold kdB; rw [hx]; decide))
  refine v_iload h0 d_Mo_goOn_67 1 rfl ?_
  refine v_callS h0 hC (sR_N0 g) (av := [.int (s k)]) (rest := []) (m_Mo_isName (kl K) g hI _ _) wd_581 wd_579 wd_580 wd_6 hd_Mo_isName (by omega) (by decide) rfl rfl (Nat.le_of_ble_eq_true rfl) d_Mo_goOn_69 (fun r9 M9 hp9 => ?_)
  obtain ⟨rfl, rfl⟩ := hp9
  refine v_r1 ?_
  refine b_if_eq h0 d_Mo_goOn_72 rfl (fun h72 => ?_) (fun h72 => absurd h72 (by unfold kdB; rw [hx]; decide))
  refine v_iload h0 d_Mo_goOn_96 1 rfl ?_
  refine v_callS h0 hC (sR_N0 g) (av := [.int (s k)]) (rest := []) (m_Mo_isLocal (kl K) g hI _ _) wd_567 wd_565 wd_566 wd_6 hd_Mo_isLocal (by omega) (by decide) rfl rfl (Nat.le_of_ble_eq_true rfl) d_Mo_goOn_98 (fun r9 M9 hp9 => ?_)
  obtain ⟨rfl, rfl⟩ := hp9
  refine v_r1 ?_
  refine b_if_eq h0 d_Mo_goOn_101 rfl (fun h101 => absurd h101 (by unfold kdB; rw [hx]; decide)) (fun h101 => ?_)
  refine v_aload_n h0 d_Mo_goOn_104 5 rfl ?_
  refine v_aload_n h0 d_Mo_goOn_105 5 rfl ?_
  refine g_Mo_local_ h0 hC wd_474 d_Mo_goOn_106 ?_
  refine v_bipush h0 d_Mo_goOn_109 (v := nI 6) (by decide) ?_
  refine v_aload_n h0 d_Mo_goOn_111 5 rfl ?_
  refine g_Mo_depth_ h0 hC wd_475 d_Mo_goOn_112 ?_
  refine v_int (nI dp) ((up2_n _ _ (by omega)).trans hd) ?_
  refine v_imul h0 d_Mo_goOn_115 ?_
  refine v_int (nI (6 * dp)) (pk_mul 6 dp) ?_
  refine v_iload h0 d_Mo_goOn_116 1 rfl ?_
  refine v_iadd h0 d_Mo_goOn_118 ?_
  refine v_bipush h0 d_Mo_goOn_119 (v := nI 107) (by decide) ?_
  refine v_isub h0 d_Mo_goOn_121 ?_
  refine v_int (nI (6 * dp + lcI (s k))) (fr_l hx (6 * dp)) ?_
  refine a_Mo_local_ h0 hC (6 * dp + lcI (s k)) (rfl) (by have := (lc_of hx).1; omega) d_Mo_goOn_122 ?_
  refine v_int (M 21 (6 * dp + lcI (s k))) (up2_n _ _ (by omega)) ?_
  refine v_callV h0 hC (sR_N0 g) 0 (show 0 < 22 by omega) (show enR g 0 _ = _ from rfl) rfl (av := [.int (M 21 (6 * dp + lcI (s k)))]) (rest := []) (m_Mo_leave (kl K) g hI (up2 M 19 o (nI 1)) _ (by rw [up2_n _ _ (by omega)]; exact ho)) wd_687 wd_684 wd_686 ws_57 wd_6 hd_Mo_leave (by omega) (by decide) rfl rfl (Nat.le_of_ble_eq_true rfl) d_Mo_goOn_123 (fun r9 M9 hp9 => ?_)
  obtain ⟨rfl, rfl⟩ := hp9
  refine v_r0 ?_
  refine v_goto h0 d_Mo_goOn_126 rfl ?_
  exact v_vret h0 hC hR d_Mo_goOn_348 (⟨rfl, rfl⟩)
set_option maxHeartbeats 4000000 in
theorem m_Mo_goOn_20 (l : Launch) (g : Gd) (hI : sI (sR g)) (M : Me) {s : Nat → Int32} {c n k o : Nat} (hc : c < 10) (hT : TR M c s n) (hk : k < n) (ho : M 0 25 = nI (o + 1)) (ho3 : o < 300) (h17 : M 17 o = nI c) (h18 : M 18 o = nI k) (hx : kd (s k) = 2) (h19 : M 19 o = nI 0) {fu : Nat} (hf : M 0 28 = nI fu) (hfu : fu ≤ 2000) : CR l g y_Mo_goOn c_Mo_goOn 6 none 3 [.ref (ga g 0)] M (fun r M' => r = none ∧ M' = enF (up2 M 19 o (nI 1)) c (k + 1) (o + 1) fu) := by
  refine Ct.of hI (sR_N0 g) rfl (Nat.le_of_ble_eq_true rfl) (fun K h0 hC hR hkl hn => ?_)
  have hC : Cx (sR g) K gC_Mo _ := hC
  show V K (wp (sR g)) M 0 [(0, .ref (ga g 0))] []
  refine v_aload_n h0 d_Mo_goOn_0 0 rfl ?_
  refine g_Mo_open_ h0 hC wd_473 d_Mo_goOn_1 ?_
  have hn24 := hT.2.1
  refine v_int (nI (o + 1)) (ho) ?_
  refine v_iconst h0 d_Mo_goOn_4 (v := nI 1) (by decide) ?_
  refine v_isub h0 d_Mo_goOn_5 ?_
  refine v_int (nI o) (pred1 o) ?_
  refine v_istore_n h0 d_Mo_goOn_6 (lv' := [(1, .int (nI o)), (0, .ref (ga g 0))]) (lt_kn hn (by decide)) rfl ?_
  refine v_aload_n h0 d_Mo_goOn_7 1 rfl ?_
  refine g_Mo_cellAt_ h0 hC wd_469 d_Mo_goOn_8 ?_
  refine v_iload_n h0 d_Mo_goOn_11 0 rfl ?_
  refine a_Mo_cellAt_ h0 hC o (rfl) (by omega) d_Mo_goOn_12 ?_
  refine v_int (nI c) (h17) ?_
  refine v_istore_n h0 d_Mo_goOn_13 (lv' := [(2, .int (nI c)), (1, .int (nI o)), (0, .ref (ga g 0))]) (lt_kn hn (by decide)) rfl ?_
  refine v_aload_n h0 d_Mo_goOn_14 2 rfl ?_
  refine g_Mo_at_ h0 hC wd_470 d_Mo_goOn_15 ?_
  refine v_iload_n h0 d_Mo_goOn_18 1 rfl ?_
  refine a_Mo_at_ h0 hC o (rfl) (by omega) d_Mo_goOn_19 ?_
  refine v_int (nI k) (h18) ?_
  refine v_istore_n h0 d_Mo_goOn_20 (lv' := [(3, .int (nI k)), (2, .int (nI c)), (1, .int (nI o)), (0, .ref (ga g 0))]) (lt_kn hn (by decide)) rfl ?_
  refine v_aload_n h0 d_Mo_goOn_21 3 rfl ?_
  refine v_iload_n h0 d_Mo_goOn_22 1 rfl ?_
  refine v_iload_n h0 d_Mo_goOn_23 0 rfl ?_
  refine v_callV h0 hC (sR_N0 g) 0 (show 0 < 22 by omega) (show enR g 0 _ = _ from rfl) rfl (av := [.int (nI c), .int (nI k)]) (rest := []) (m_Mo_charAt (kl K) g hI M hc (by omega) hT) wd_564 wd_561 wd_563 ws_32 wd_6 hd_Mo_charAt (by omega) (by decide) rfl rfl (Nat.le_of_ble_eq_true rfl) d_Mo_goOn_24 (fun r9 M9 hp9 => ?_)
  obtain ⟨rfl, rfl⟩ := hp9
  refine v_r1 ?_
  refine v_int (s k) (if_pos hk) ?_
  refine v_istore h0 d_Mo_goOn_27 (lv' := [(4, .int (s k)), (3, .int (nI k)), (2, .int (nI c)), (1, .int (nI o)), (0, .ref (ga g 0))]) (lt_kn hn (by decide)) rfl ?_
  refine v_aload_n h0 d_Mo_goOn_29 4 rfl ?_
  refine g_Mo_stage_ h0 hC wd_471 d_Mo_goOn_30 ?_
  refine v_iload_n h0 d_Mo_goOn_33 3 rfl ?_
  refine a_Mo_stage_ h0 hC o (rfl) (by omega) d_Mo_goOn_34 ?_
  refine v_int (nI 0) (h19) ?_
  refine v_istore h0 d_Mo_goOn_35 (lv' := [(5, .int (nI 0)), (4, .int (s k)), (3, .int (nI k)), (2, .int (nI c)), (1, .int (nI o)), (0, .ref (ga g 0))]) (lt_kn hn (by decide)) rfl ?_
  refine v_aload_n h0 d_Mo_goOn_37 5 rfl ?_
  refine g_Mo_stage_ h0 hC wd_471 d_Mo_goOn_38 ?_
  refine v_iload_n h0 d_Mo_goOn_41 4 rfl ?_
  refine v_iload h0 d_Mo_goOn_42 0 rfl ?_
  refine v_iconst h0 d_Mo_goOn_44 (v := nI 1) (by decide) ?_
  refine v_iadd h0 d_Mo_goOn_45 ?_
  refine v_int (nI (0 + 1)) (nI_add 0 1) ?_
  refine v_int (nI 1) (rfl) ?_
  refine s_Mo_stage_ h0 hC o (rfl) (z := nI 1) (rfl) (by omega) d_Mo_goOn_46 ?_
  refine v_iload h0 d_Mo_goOn_47 1 rfl ?_
  refine v_callS h0 hC (sR_N0 g) (av := [.int (s k)]) (rest := []) (m_Mo_isDigit (kl K) g hI _ _) wd_574 wd_572 wd_573 wd_6 hd_Mo_isDigit (by omega) (by decide) rfl rfl (Nat.le_of_ble_eq_true rfl) d_Mo_goOn_49 (fun r9 M9 hp9 => ?_)
  obtain ⟨rfl, rfl⟩ := hp9
  refine v_r1 ?_
  refine b_if_eq h0 d_Mo_goOn_52 rfl (fun h52 => ?_) (fun h52 => absurd h52 (by unfold kdB; rw [hx]; decide))
  refine v_iload h0 d_Mo_goOn_67 1 rfl ?_
  refine v_callS h0 hC (sR_N0 g) (av := [.int (s k)]) (rest := []) (m_Mo_isName (kl K) g hI _ _) wd_581 wd_579 wd_580 wd_6 hd_Mo_isName (by omega) (by decide) rfl rfl (Nat.le_of_ble_eq_true rfl) d_Mo_goOn_69 (fun r9 M9 hp9 => ?_)
  obtain ⟨rfl, rfl⟩ := hp9
  refine v_r1 ?_
  refine b_if_eq h0 d_Mo_goOn_72 rfl (fun h72 => ?_) (fun h72 => absurd h72 (by unfold kdB; rw [hx]; decide))
  refine v_iload h0 d_Mo_goOn_96 1 rfl ?_
  refine v_callS h0 hC (sR_N0 g) (av := [.int (s k)]) (rest := []) (m_Mo_isLocal (kl K) g hI _ _) wd_567 wd_565 wd_566 wd_6 hd_Mo_isLocal (by omega) (by decide) rfl rfl (Nat.le_of_ble_eq_true rfl) d_Mo_goOn_98 (fun r9 M9 hp9 => ?_)
  obtain ⟨rfl, rfl⟩ := hp9
  refine v_r1 ?_
  refine b_if_eq h0 d_Mo_goOn_101 rfl (fun h101 => ?_) (fun h101 => absurd h101 (by unfold kdB; rw [hx]; decide))
  refine v_iload h0 d_Mo_goOn_129 0 rfl ?_
  refine v_if_ne h0 d_Mo_goOn_131 rfl (fun h131 => absurd h131 (fun z => z rfl)) (fun h131 => ?_)
  refine v_aload_n h0 d_Mo_goOn_134 5 rfl ?_
  refine v_iload_n h0 d_Mo_goOn_135 3 rfl ?_
  refine v_iload h0 d_Mo_goOn_136 1 rfl ?_
  refine v_bipush h0 d_Mo_goOn_138 (v := nI 36) (by decide) ?_
  refine v_icmp_eq h0 d_Mo_goOn_140 rfl (fun h140 => absurd h140 (fun z => absurd (hx.symm.trans ((kd_4 _).mpr z)) (by decide))) (fun h140 => ?_)
  refine v_iload h0 d_Mo_goOn_143 1 rfl ?_
  refine v_bipush h0 d_Mo_goOn_145 (v := nI 33) (by decide) ?_
  refine v_icmp_ne h0 d_Mo_goOn_147 rfl (fun h147 => ?_) (fun h147 => absurd h147 (fun z => absurd (hx.symm.trans ((kd_5 _).mpr z)) (by decide)))
  refine v_iload_n h0 d_Mo_goOn_156 2 rfl ?_
  refine v_iconst h0 d_Mo_goOn_157 (v := nI 1) (by decide) ?_
  refine v_iadd h0 d_Mo_goOn_158 ?_
  refine v_int (nI (k + 1)) (nI_add k 1) ?_
  refine v_callV h0 hC (sR_N0 g) 0 (show 0 < 22 by omega) (show enR g 0 _ = _ from rfl) rfl (av := [.int (nI c), .int (nI (k + 1))]) (rest := []) (m_Mo_enter (kl K) g hI (up2 M 19 o (nI 1)) (o := o + 1) (by rw [up2_n _ _ (by omega)]; exact hf) hfu (by rw [up2_n _ _ (by omega)]; exact ho) (by omega)) wd_679 wd_676 wd_678 ws_55 wd_6 hd_Mo_enter (by omega) (by decide) rfl rfl (Nat.le_of_ble_eq_true rfl) d_Mo_goOn_159 (fun r9 M9 hp9 => ?_)
  obtain ⟨rfl, rfl⟩ := hp9
  refine v_r0 ?_
  refine v_goto h0 d_Mo_goOn_162 rfl ?_
  exact v_vret h0 hC hR d_Mo_goOn_348 (⟨rfl, rfl⟩)
set_option maxHeartbeats 4000000 in
theorem m_Mo_goOn_10 (l : Launch) (g : Gd) (hI : sI (sR g)) (M : Me) {s : Nat → Int32} {c n k o : Nat} (hc : c < 10) (hT : TR M c s n) (hk : k < n) (ho : M 0 25 = nI (o + 1)) (ho3 : o < 300) (h17 : M 17 o = nI c) (h18 : M 18 o = nI k) (hx : kd (s k) = 1) (h19 : M 19 o = nI 0) {fu : Nat} (hf : M 0 28 = nI fu) (hfu : fu ≤ 2000) : CR l g y_Mo_goOn c_Mo_goOn 6 none 3 [.ref (ga g 0)] M (fun r M' => r = none ∧ M' = enF (up2 M 19 o (nI 1)) c (k + 1) (o + 1) fu) := by
  refine Ct.of hI (sR_N0 g) rfl (Nat.le_of_ble_eq_true rfl) (fun K h0 hC hR hkl hn => ?_)
  have hC : Cx (sR g) K gC_Mo _ := hC
  show V K (wp (sR g)) M 0 [(0, .ref (ga g 0))] []
  refine v_aload_n h0 d_Mo_goOn_0 0 rfl ?_
  refine g_Mo_open_ h0 hC wd_473 d_Mo_goOn_1 ?_
  have hn24 := hT.2.1
  refine v_int (nI (o + 1)) (ho) ?_
  refine v_iconst h0 d_Mo_goOn_4 (v := nI 1) (by decide) ?_
  refine v_isub h0 d_Mo_goOn_5 ?_
  refine v_int (nI o) (pred1 o) ?_
  refine v_istore_n h0 d_Mo_goOn_6 (lv' := [(1, .int (nI o)), (0, .ref (ga g 0))]) (lt_kn hn (by decide)) rfl ?_
  refine v_aload_n h0 d_Mo_goOn_7 1 rfl ?_
  refine g_Mo_cellAt_ h0 hC wd_469 d_Mo_goOn_8 ?_
  refine v_iload_n h0 d_Mo_goOn_11 0 rfl ?_
  refine a_Mo_cellAt_ h0 hC o (rfl) (by omega) d_Mo_goOn_12 ?_
  refine v_int (nI c) (h17) ?_
  refine v_istore_n h0 d_Mo_goOn_13 (lv' := [(2, .int (nI c)), (1, .int (nI o)), (0, .ref (ga g 0))]) (lt_kn hn (by decide)) rfl ?_
  refine v_aload_n h0 d_Mo_goOn_14 2 rfl ?_
  refine g_Mo_at_ h0 hC wd_470 d_Mo_goOn_15 ?_
  refine v_iload_n h0 d_Mo_goOn_18 1 rfl ?_
  refine a_Mo_at_ h0 hC o (rfl) (by omega) d_Mo_goOn_19 ?_
  refine v_int (nI k) (h18) ?_
  refine v_istore_n h0 d_Mo_goOn_20 (lv' := [(3, .int (nI k)), (2, .int (nI c)), (1, .int (nI o)), (0, .ref (ga g 0))]) (lt_kn hn (by decide)) rfl ?_
  refine v_aload_n h0 d_Mo_goOn_21 3 rfl ?_
  refine v_iload_n h0 d_Mo_goOn_22 1 rfl ?_
  refine v_iload_n h0 d_Mo_goOn_23 0 rfl ?_
  refine v_callV h0 hC (sR_N0 g) 0 (show 0 < 22 by omega) (show enR g 0 _ = _ from rfl) rfl (av := [.int (nI c), .int (nI k)]) (rest := []) (m_Mo_charAt (kl K) g hI M hc (by omega) hT) wd_564 wd_561 wd_563 ws_32 wd_6 hd_Mo_charAt (by omega) (by decide) rfl rfl (Nat.le_of_ble_eq_true rfl) d_Mo_goOn_24 (fun r9 M9 hp9 => ?_)
  obtain ⟨rfl, rfl⟩ := hp9
  refine v_r1 ?_
  refine v_int (s k) (if_pos hk) ?_
  refine v_istore h0 d_Mo_goOn_27 (lv' := [(4, .int (s k)), (3, .int (nI k)), (2, .int (nI c)), (1, .int (nI o)), (0, .ref (ga g 0))]) (lt_kn hn (by decide)) rfl ?_
  refine v_aload_n h0 d_Mo_goOn_29 4 rfl ?_
  refine g_Mo_stage_ h0 hC wd_471 d_Mo_goOn_30 ?_
  refine v_iload_n h0 d_Mo_goOn_33 3 rfl ?_
  refine a_Mo_stage_ h0 hC o (rfl) (by omega) d_Mo_goOn_34 ?_
  refine v_int (nI 0) (h19) ?_
  refine v_istore h0 d_Mo_goOn_35 (lv' := [(5, .int (nI 0)), (4, .int (s k)), (3, .int (nI k)), (2, .int (nI c)), (1, .int (nI o)), (0, .ref (ga g 0))]) (lt_kn hn (by decide)) rfl ?_
  refine v_aload_n h0 d_Mo_goOn_37 5 rfl ?_
  refine g_Mo_stage_ h0 hC wd_471 d_Mo_goOn_38 ?_
  refine v_iload_n h0 d_Mo_goOn_41 4 rfl ?_
  refine v_iload h0 d_Mo_goOn_42 0 rfl ?_
  refine v_iconst h0 d_Mo_goOn_44 (v := nI 1) (by decide) ?_
  refine v_iadd h0 d_Mo_goOn_45 ?_
  refine v_int (nI (0 + 1)) (nI_add 0 1) ?_
  refine v_int (nI 1) (rfl) ?_
  refine s_Mo_stage_ h0 hC o (rfl) (z := nI 1) (rfl) (by omega) d_Mo_goOn_46 ?_
  refine v_iload h0 d_Mo_goOn_47 1 rfl ?_
  refine v_callS h0 hC (sR_N0 g) (av := [.int (s k)]) (rest := []) (m_Mo_isDigit (kl K) g hI _ _) wd_574 wd_572 wd_573 wd_6 hd_Mo_isDigit (by omega) (by decide) rfl rfl (Nat.le_of_ble_eq_true rfl) d_Mo_goOn_49 (fun r9 M9 hp9 => ?_)
  obtain ⟨rfl, rfl⟩ := hp9
  refine v_r1 ?_
  refine b_if_eq h0 d_Mo_goOn_52 rfl (fun h52 => ?_) (fun h52 => absurd h52 (by unfold kdB; rw [hx]; decide))
  refine v_iload h0 d_Mo_goOn_67 1 rfl ?_
  refine v_callS h0 hC (sR_N0 g) (av := [.int (s k)]) (rest := []) (m_Mo_isName (kl K) g hI _ _) wd_581 wd_579 wd_580 wd_6 hd_Mo_isName (by omega) (by decide) rfl rfl (Nat.le_of_ble_eq_true rfl) d_Mo_goOn_69 (fun r9 M9 hp9 => ?_)
  obtain ⟨rfl, rfl⟩ := hp9
  refine v_r1 ?_
  refine b_if_eq h0 d_Mo_goOn_72 rfl (fun h72 => ?_) (fun h72 => absurd h72 (by unfold kdB; rw [hx]; decide))
  refine v_iload h0 d_Mo_goOn_96 1 rfl ?_
  refine v_callS h0 hC (sR_N0 g) (av := [.int (s k)]) (rest := []) (m_Mo_isLocal (kl K) g hI _ _) wd_567 wd_565 wd_566 wd_6 hd_Mo_isLocal (by omega) (by decide) rfl rfl (Nat.le_of_ble_eq_true rfl) d_Mo_goOn_98 (fun r9 M9 hp9 => ?_)
  obtain ⟨rfl, rfl⟩ := hp9
  refine v_r1 ?_
  refine b_if_eq h0 d_Mo_goOn_101 rfl (fun h101 => ?_) (fun h101 => absurd h101 (by unfold kdB; rw [hx]; decide))
  refine v_iload h0 d_Mo_goOn_129 0 rfl ?_
  refine v_if_ne h0 d_Mo_goOn_131 rfl (fun h131 => absurd h131 (fun z => z rfl)) (fun h131 => ?_)
  refine v_aload_n h0 d_Mo_goOn_134 5 rfl ?_
  refine v_iload_n h0 d_Mo_goOn_135 3 rfl ?_
  refine v_iload h0 d_Mo_goOn_136 1 rfl ?_
  refine v_bipush h0 d_Mo_goOn_138 (v := nI 36) (by decide) ?_
  refine v_icmp_eq h0 d_Mo_goOn_140 rfl (fun h140 => absurd h140 (fun z => absurd (hx.symm.trans ((kd_4 _).mpr z)) (by decide))) (fun h140 => ?_)
  refine v_iload h0 d_Mo_goOn_143 1 rfl ?_
  refine v_bipush h0 d_Mo_goOn_145 (v := nI 33) (by decide) ?_
  refine v_icmp_ne h0 d_Mo_goOn_147 rfl (fun h147 => ?_) (fun h147 => absurd h147 (fun z => absurd (hx.symm.trans ((kd_5 _).mpr z)) (by decide)))
  refine v_iload_n h0 d_Mo_goOn_156 2 rfl ?_
  refine v_iconst h0 d_Mo_goOn_157 (v := nI 1) (by decide) ?_
  refine v_iadd h0 d_Mo_goOn_158 ?_
  refine v_int (nI (k + 1)) (nI_add k 1) ?_
  refine v_callV h0 hC (sR_N0 g) 0 (show 0 < 22 by omega) (show enR g 0 _ = _ from rfl) rfl (av := [.int (nI c), .int (nI (k + 1))]) (rest := []) (m_Mo_enter (kl K) g hI (up2 M 19 o (nI 1)) (o := o + 1) (by rw [up2_n _ _ (by omega)]; exact hf) hfu (by rw [up2_n _ _ (by omega)]; exact ho) (by omega)) wd_679 wd_676 wd_678 ws_55 wd_6 hd_Mo_enter (by omega) (by decide) rfl rfl (Nat.le_of_ble_eq_true rfl) d_Mo_goOn_159 (fun r9 M9 hp9 => ?_)
  obtain ⟨rfl, rfl⟩ := hp9
  refine v_r0 ?_
  refine v_goto h0 d_Mo_goOn_162 rfl ?_
  exact v_vret h0 hC hR d_Mo_goOn_348 (⟨rfl, rfl⟩)
set_option maxHeartbeats 4000000 in
theorem m_Mo_goOn_30 (l : Launch) (g : Gd) (hI : sI (sR g)) (M : Me) {s : Nat → Int32} {c n k o : Nat} (hc : c < 10) (hT : TR M c s n) (hk : k < n) (ho : M 0 25 = nI (o + 1)) (ho3 : o < 300) (h17 : M 17 o = nI c) (h18 : M 18 o = nI k) (hx : kd (s k) = 3) (h19 : M 19 o = nI 0) {fu : Nat} (hf : M 0 28 = nI fu) (hfu : fu ≤ 2000) : CR l g y_Mo_goOn c_Mo_goOn 6 none 3 [.ref (ga g 0)] M (fun r M' => r = none ∧ M' = enF (up2 M 19 o (nI 1)) c (k + 1) (o + 1) fu) := by
  refine Ct.of hI (sR_N0 g) rfl (Nat.le_of_ble_eq_true rfl) (fun K h0 hC hR hkl hn => ?_)
  have hC : Cx (sR g) K gC_Mo _ := hC
  show V K (wp (sR g)) M 0 [(0, .ref (ga g 0))] []
  refine v_aload_n h0 d_Mo_goOn_0 0 rfl ?_
  refine g_Mo_open_ h0 hC wd_473 d_Mo_goOn_1 ?_
  have hn24 := hT.2.1
  refine v_int (nI (o + 1)) (ho) ?_
  refine v_iconst h0 d_Mo_goOn_4 (v := nI 1) (by decide) ?_
  refine v_isub h0 d_Mo_goOn_5 ?_
  refine v_int (nI o) (pred1 o) ?_
  refine v_istore_n h0 d_Mo_goOn_6 (lv' := [(1, .int (nI o)), (0, .ref (ga g 0))]) (lt_kn hn (by decide)) rfl ?_
  refine v_aload_n h0 d_Mo_goOn_7 1 rfl ?_
  refine g_Mo_cellAt_ h0 hC wd_469 d_Mo_goOn_8 ?_
  refine v_iload_n h0 d_Mo_goOn_11 0 rfl ?_
  refine a_Mo_cellAt_ h0 hC o (rfl) (by omega) d_Mo_goOn_12 ?_
  refine v_int (nI c) (h17) ?_
  refine v_istore_n h0 d_Mo_goOn_13 (lv' := [(2, .int (nI c)), (1, .int (nI o)), (0, .ref (ga g 0))]) (lt_kn hn (by decide)) rfl ?_
  refine v_aload_n h0 d_Mo_goOn_14 2 rfl ?_
  refine g_Mo_at_ h0 hC wd_470 d_Mo_goOn_15 ?_
  refine v_iload_n h0 d_Mo_goOn_18 1 rfl ?_
  refine a_Mo_at_ h0 hC o (rfl) (by omega) d_Mo_goOn_19 ?_
  refine v_int (nI k) (h18) ?_
  refine v_istore_n h0 d_Mo_goOn_20 (lv' := [(3, .int (nI k)), (2, .int (nI c)), (1, .int (nI o)), (0, .ref (ga g 0))]) (lt_kn hn (by decide)) rfl ?_
  refine v_aload_n h0 d_Mo_goOn_21 3 rfl ?_
  refine v_iload_n h0 d_Mo_goOn_22 1 rfl ?_
  refine v_iload_n h0 d_Mo_goOn_23 0 rfl ?_
  refine v_callV h0 hC (sR_N0 g) 0 (show 0 < 22 by omega) (show enR g 0 _ = _ from rfl) rfl (av := [.int (nI c), .int (nI k)]) (rest := []) (m_Mo_charAt (kl K) g hI M hc (by omega) hT) wd_564 wd_561 wd_563 ws_32 wd_6 hd_Mo_charAt (by omega) (by decide) rfl rfl (Nat.le_of_ble_eq_true rfl) d_Mo_goOn_24 (fun r9 M9 hp9 => ?_)
  obtain ⟨rfl, rfl⟩ := hp9
  refine v_r1 ?_
  refine v_int (s k) (if_pos hk) ?_
  refine v_istore h0 d_Mo_goOn_27 (lv' := [(4, .int (s k)), (3, .int (nI k)), (2, .int (nI c)), (1, .int (nI o)), (0, .ref (ga g 0))]) (lt_kn hn (by decide)) rfl ?_
  refine v_aload_n h0 d_Mo_goOn_29 4 rfl ?_
  refine g_Mo_stage_ h0 hC wd_471 d_Mo_goOn_30 ?_
  refine v_iload_n h0 d_Mo_goOn_33 3 rfl ?_
  refine a_Mo_stage_ h0 hC o (rfl) (by omega) d_Mo_goOn_34 ?_
  refine v_int (nI 0) (h19) ?_
  refine v_istore h0 d_Mo_goOn_35 (lv' := [(5, .int (nI 0)), (4, .int (s k)), (3, .int (nI k)), (2, .int (nI c)), (1, .int (nI o)), (0, .ref (ga g 0))]) (lt_kn hn (by decide)) rfl ?_
  refine v_aload_n h0 d_Mo_goOn_37 5 rfl ?_
  refine g_Mo_stage_ h0 hC wd_471 d_Mo_goOn_38 ?_
  refine v_iload_n h0 d_Mo_goOn_41 4 rfl ?_
  refine v_iload h0 d_Mo_goOn_42 0 rfl ?_
  refine v_iconst h0 d_Mo_goOn_44 (v := nI 1) (by decide) ?_
  refine v_iadd h0 d_Mo_goOn_45 ?_
  refine v_int (nI (0 + 1)) (nI_add 0 1) ?_
  refine v_int (nI 1) (rfl) ?_
  refine s_Mo_stage_ h0 hC o (rfl) (z := nI 1) (rfl) (by omega) d_Mo_goOn_46 ?_
  refine v_iload h0 d_Mo_goOn_47 1 rfl ?_
  refine v_callS h0 hC (sR_N0 g) (av := [.int (s k)]) (rest := []) (m_Mo_isDigit (kl K) g hI _ _) wd_574 wd_572 wd_573 wd_6 hd_Mo_isDigit (by omega) (by decide) rfl rfl (Nat.le_of_ble_eq_true rfl) d_Mo_goOn_49 (fun r9 M9 hp9 => ?_)
  obtain ⟨rfl, rfl⟩ := hp9
  refine v_r1 ?_
  refine b_if_eq h0 d_Mo_goOn_52 rfl (fun h52 => ?_) (fun h52 => absurd h52 (by unfold kdB; rw [hx]; decide))
  refine v_iload h0 d_Mo_goOn_67 1 rfl ?_
  refine v_callS h0 hC (sR_N0 g) (av := [.int (s k)]) (rest := []) (m_Mo_isName (kl K) g hI _ _) wd_581 wd_579 wd_580 wd_6 hd_Mo_isName (by omega) (by decide) rfl rfl (Nat.le_of_ble_eq_true rfl) d_Mo_goOn_69 (fun r9 M9 hp9 => ?_)
  obtain ⟨rfl, rfl⟩ := hp9
  refine v_r1 ?_
  refine b_if_eq h0 d_Mo_goOn_72 rfl (fun h72 => ?_) (fun h72 => absurd h72 (by unfold kdB; rw [hx]; decide))
  refine v_iload h0 d_Mo_goOn_96 1 rfl ?_
  refine v_callS h0 hC (sR_N0 g) (av := [.int (s k)]) (rest := []) (m_Mo_isLocal (kl K) g hI _ _) wd_567 wd_565 wd_566 wd_6 hd_Mo_isLocal (by omega) (by decide) rfl rfl (Nat.le_of_ble_eq_true rfl) d_Mo_goOn_98 (fun r9 M9 hp9 => ?_)
  obtain ⟨rfl, rfl⟩ := hp9
  refine v_r1 ?_
  refine b_if_eq h0 d_Mo_goOn_101 rfl (fun h101 => ?_) (fun h101 => absurd h101 (by unfold kdB; rw [hx]; decide))
  refine v_iload h0 d_Mo_goOn_129 0 rfl ?_
  refine v_if_ne h0 d_Mo_goOn_131 rfl (fun h131 => absurd h131 (fun z => z rfl)) (fun h131 => ?_)
  refine v_aload_n h0 d_Mo_goOn_134 5 rfl ?_
  refine v_iload_n h0 d_Mo_goOn_135 3 rfl ?_
  refine v_iload h0 d_Mo_goOn_136 1 rfl ?_
  refine v_bipush h0 d_Mo_goOn_138 (v := nI 36) (by decide) ?_
  refine v_icmp_eq h0 d_Mo_goOn_140 rfl (fun h140 => absurd h140 (fun z => absurd (hx.symm.trans ((kd_4 _).mpr z)) (by decide))) (fun h140 => ?_)
  refine v_iload h0 d_Mo_goOn_143 1 rfl ?_
  refine v_bipush h0 d_Mo_goOn_145 (v := nI 33) (by decide) ?_
  refine v_icmp_ne h0 d_Mo_goOn_147 rfl (fun h147 => ?_) (fun h147 => absurd h147 (fun z => absurd (hx.symm.trans ((kd_5 _).mpr z)) (by decide)))
  refine v_iload_n h0 d_Mo_goOn_156 2 rfl ?_
  refine v_iconst h0 d_Mo_goOn_157 (v := nI 1) (by decide) ?_
  refine v_iadd h0 d_Mo_goOn_158 ?_
  refine v_int (nI (k + 1)) (nI_add k 1) ?_
  refine v_callV h0 hC (sR_N0 g) 0 (show 0 < 22 by omega) (show enR g 0 _ = _ from rfl) rfl (av := [.int (nI c), .int (nI (k + 1))]) (rest := []) (m_Mo_enter (kl K) g hI (up2 M 19 o (nI 1)) (o := o + 1) (by rw [up2_n _ _ (by omega)]; exact hf) hfu (by rw [up2_n _ _ (by omega)]; exact ho) (by omega)) wd_679 wd_676 wd_678 ws_55 wd_6 hd_Mo_enter (by omega) (by decide) rfl rfl (Nat.le_of_ble_eq_true rfl) d_Mo_goOn_159 (fun r9 M9 hp9 => ?_)
  obtain ⟨rfl, rfl⟩ := hp9
  refine v_r0 ?_
  refine v_goto h0 d_Mo_goOn_162 rfl ?_
  exact v_vret h0 hC hR d_Mo_goOn_348 (⟨rfl, rfl⟩)
set_option maxHeartbeats 4000000 in
theorem m_Mo_goOn_40 (l : Launch) (g : Gd) (hI : sI (sR g)) (M : Me) {s : Nat → Int32} {c n k o : Nat} (hc : c < 10) (hT : TR M c s n) (hk : k < n) (ho : M 0 25 = nI (o + 1)) (ho3 : o < 300) (h17 : M 17 o = nI c) (h18 : M 18 o = nI k) (hx : kd (s k) = 4) (h19 : M 19 o = nI 0) {fu : Nat} (hf : M 0 28 = nI fu) (hfu : fu ≤ 2000) : CR l g y_Mo_goOn c_Mo_goOn 6 none 3 [.ref (ga g 0)] M (fun r M' => r = none ∧ M' = enF (up2 M 19 o (nI 1)) c (k + 2) (o + 1) fu) := by
  refine Ct.of hI (sR_N0 g) rfl (Nat.le_of_ble_eq_true rfl) (fun K h0 hC hR hkl hn => ?_)
  have hC : Cx (sR g) K gC_Mo _ := hC
  show V K (wp (sR g)) M 0 [(0, .ref (ga g 0))] []
  refine v_aload_n h0 d_Mo_goOn_0 0 rfl ?_
  refine g_Mo_open_ h0 hC wd_473 d_Mo_goOn_1 ?_
  have hn24 := hT.2.1
  refine v_int (nI (o + 1)) (ho) ?_
  refine v_iconst h0 d_Mo_goOn_4 (v := nI 1) (by decide) ?_
  refine v_isub h0 d_Mo_goOn_5 ?_
  refine v_int (nI o) (pred1 o) ?_
  refine v_istore_n h0 d_Mo_goOn_6 (lv' := [(1, .int (nI o)), (0, .ref (ga g 0))]) (lt_kn hn (by decide)) rfl ?_
  refine v_aload_n h0 d_Mo_goOn_7 1 rfl ?_
  refine g_Mo_cellAt_ h0 hC wd_469 d_Mo_goOn_8 ?_
  refine v_iload_n h0 d_Mo_goOn_11 0 rfl ?_
  refine a_Mo_cellAt_ h0 hC o (rfl) (by omega) d_Mo_goOn_12 ?_
  refine v_int (nI c) (h17) ?_
  refine v_istore_n h0 d_Mo_goOn_13 (lv' := [(2, .int (nI c)), (1, .int (nI o)), (0, .ref (ga g 0))]) (lt_kn hn (by decide)) rfl ?_
  refine v_aload_n h0 d_Mo_goOn_14 2 rfl ?_
  refine g_Mo_at_ h0 hC wd_470 d_Mo_goOn_15 ?_
  refine v_iload_n h0 d_Mo_goOn_18 1 rfl ?_
  refine a_Mo_at_ h0 hC o (rfl) (by omega) d_Mo_goOn_19 ?_
  refine v_int (nI k) (h18) ?_
  refine v_istore_n h0 d_Mo_goOn_20 (lv' := [(3, .int (nI k)), (2, .int (nI c)), (1, .int (nI o)), (0, .ref (ga g 0))]) (lt_kn hn (by decide)) rfl ?_
  refine v_aload_n h0 d_Mo_goOn_21 3 rfl ?_
  refine v_iload_n h0 d_Mo_goOn_22 1 rfl ?_
  refine v_iload_n h0 d_Mo_goOn_23 0 rfl ?_
  refine v_callV h0 hC (sR_N0 g) 0 (show 0 < 22 by omega) (show enR g 0 _ = _ from rfl) rfl (av := [.int (nI c), .int (nI k)]) (rest := []) (m_Mo_charAt (kl K) g hI M hc (by omega) hT) wd_564 wd_561 wd_563 ws_32 wd_6 hd_Mo_charAt (by omega) (by decide) rfl rfl (Nat.le_of_ble_eq_true rfl) d_Mo_goOn_24 (fun r9 M9 hp9 => ?_)
  obtain ⟨rfl, rfl⟩ := hp9
  refine v_r1 ?_
  refine v_int (s k) (if_pos hk) ?_
  refine v_istore h0 d_Mo_goOn_27 (lv' := [(4, .int (s k)), (3, .int (nI k)), (2, .int (nI c)), (1, .int (nI o)), (0, .ref (ga g 0))]) (lt_kn hn (by decide)) rfl ?_
  refine v_aload_n h0 d_Mo_goOn_29 4 rfl ?_
  refine g_Mo_stage_ h0 hC wd_471 d_Mo_goOn_30 ?_
  refine v_iload_n h0 d_Mo_goOn_33 3 rfl ?_
  refine a_Mo_stage_ h0 hC o (rfl) (by omega) d_Mo_goOn_34 ?_
  refine v_int (nI 0) (h19) ?_
  refine v_istore h0 d_Mo_goOn_35 (lv' := [(5, .int (nI 0)), (4, .int (s k)), (3, .int (nI k)), (2, .int (nI c)), (1, .int (nI o)), (0, .ref (ga g 0))]) (lt_kn hn (by decide)) rfl ?_
  refine v_aload_n h0 d_Mo_goOn_37 5 rfl ?_
  refine g_Mo_stage_ h0 hC wd_471 d_Mo_goOn_38 ?_
  refine v_iload_n h0 d_Mo_goOn_41 4 rfl ?_
  refine v_iload h0 d_Mo_goOn_42 0 rfl ?_
  refine v_iconst h0 d_Mo_goOn_44 (v := nI 1) (by decide) ?_
  refine v_iadd h0 d_Mo_goOn_45 ?_
  refine v_int (nI (0 + 1)) (nI_add 0 1) ?_
  refine v_int (nI 1) (rfl) ?_
  refine s_Mo_stage_ h0 hC o (rfl) (z := nI 1) (rfl) (by omega) d_Mo_goOn_46 ?_
  refine v_iload h0 d_Mo_goOn_47 1 rfl ?_
  refine v_callS h0 hC (sR_N0 g) (av := [.int (s k)]) (rest := []) (m_Mo_isDigit (kl K) g hI _ _) wd_574 wd_572 wd_573 wd_6 hd_Mo_isDigit (by omega) (by decide) rfl rfl (Nat.le_of_ble_eq_true rfl) d_Mo_goOn_49 (fun r9 M9 hp9 => ?_)
  obtain ⟨rfl, rfl⟩ := hp9
  refine v_r1 ?_
  refine b_if_eq h0 d_Mo_goOn_52 rfl (fun h52 => ?_) (fun h52 => absurd h52 (by unfold kdB; rw [hx]; decide))
  refine v_iload h0 d_Mo_goOn_67 1 rfl ?_
  refine v_callS h0 hC (sR_N0 g) (av := [.int (s k)]) (rest := []) (m_Mo_isName (kl K) g hI _ _) wd_581 wd_579 wd_580 wd_6 hd_Mo_isName (by omega) (by decide) rfl rfl (Nat.le_of_ble_eq_true rfl) d_Mo_goOn_69 (fun r9 M9 hp9 => ?_)
  obtain ⟨rfl, rfl⟩ := hp9
  refine v_r1 ?_
  refine b_if_eq h0 d_Mo_goOn_72 rfl (fun h72 => ?_) (fun h72 => absurd h72 (by unfold kdB; rw [hx]; decide))
  refine v_iload h0 d_Mo_goOn_96 1 rfl ?_
  refine v_callS h0 hC (sR_N0 g) (av := [.int (s k)]) (rest := []) (m_Mo_isLocal (kl K) g hI _ _) wd_567 wd_565 wd_566 wd_6 hd_Mo_isLocal (by omega) (by decide) rfl rfl (Nat.le_of_ble_eq_true rfl) d_Mo_goOn_98 (fun r9 M9 hp9 => ?_)
  obtain ⟨rfl, rfl⟩ := hp9
  refine v_r1 ?_
  refine b_if_eq h0 d_Mo_goOn_101 rfl (fun h101 => ?_) (fun h101 => absurd h101 (by unfold kdB; rw [hx]; decide))
  refine v_iload h0 d_Mo_goOn_129 0 rfl ?_
  refine v_if_ne h0 d_Mo_goOn_131 rfl (fun h131 => absurd h131 (fun z => z rfl)) (fun h131 => ?_)
  refine v_aload_n h0 d_Mo_goOn_134 5 rfl ?_
  refine v_iload_n h0 d_Mo_goOn_135 3 rfl ?_
  refine v_iload h0 d_Mo_goOn_136 1 rfl ?_
  refine v_bipush h0 d_Mo_goOn_138 (v := nI 36) (by decide) ?_
  refine v_icmp_eq h0 d_Mo_goOn_140 rfl (fun h140 => ?_) (fun h140 => absurd h140 (fun z => z ((kd_4 _).mp hx)))
  refine v_iload_n h0 d_Mo_goOn_150 2 rfl ?_
  refine v_iconst h0 d_Mo_goOn_151 (v := nI 2) (by decide) ?_
  refine v_iadd h0 d_Mo_goOn_152 ?_
  refine v_int (nI (k + 2)) (nI_add k 2) ?_
  refine v_goto h0 d_Mo_goOn_153 rfl ?_
  refine v_callV h0 hC (sR_N0 g) 0 (show 0 < 22 by omega) (show enR g 0 _ = _ from rfl) rfl (av := [.int (nI c), .int (nI (k + 2))]) (rest := []) (m_Mo_enter (kl K) g hI (up2 M 19 o (nI 1)) (o := o + 1) (by rw [up2_n _ _ (by omega)]; exact hf) hfu (by rw [up2_n _ _ (by omega)]; exact ho) (by omega)) wd_679 wd_676 wd_678 ws_55 wd_6 hd_Mo_enter (by omega) (by decide) rfl rfl (Nat.le_of_ble_eq_true rfl) d_Mo_goOn_159 (fun r9 M9 hp9 => ?_)
  obtain ⟨rfl, rfl⟩ := hp9
  refine v_r0 ?_
  refine v_goto h0 d_Mo_goOn_162 rfl ?_
  exact v_vret h0 hC hR d_Mo_goOn_348 (⟨rfl, rfl⟩)
set_option maxHeartbeats 4000000 in
theorem m_Mo_goOn_50 (l : Launch) (g : Gd) (hI : sI (sR g)) (M : Me) {s : Nat → Int32} {c n k o : Nat} (hc : c < 10) (hT : TR M c s n) (hk : k < n) (ho : M 0 25 = nI (o + 1)) (ho3 : o < 300) (h17 : M 17 o = nI c) (h18 : M 18 o = nI k) (hx : kd (s k) = 5) (h19 : M 19 o = nI 0) {fu : Nat} (hf : M 0 28 = nI fu) (hfu : fu ≤ 2000) : CR l g y_Mo_goOn c_Mo_goOn 6 none 3 [.ref (ga g 0)] M (fun r M' => r = none ∧ M' = enF (up2 M 19 o (nI 1)) c (k + 2) (o + 1) fu) := by
  refine Ct.of hI (sR_N0 g) rfl (Nat.le_of_ble_eq_true rfl) (fun K h0 hC hR hkl hn => ?_)
  have hC : Cx (sR g) K gC_Mo _ := hC
  show V K (wp (sR g)) M 0 [(0, .ref (ga g 0))] []
  refine v_aload_n h0 d_Mo_goOn_0 0 rfl ?_
  refine g_Mo_open_ h0 hC wd_473 d_Mo_goOn_1 ?_
  have hn24 := hT.2.1
  refine v_int (nI (o + 1)) (ho) ?_
  refine v_iconst h0 d_Mo_goOn_4 (v := nI 1) (by decide) ?_
  refine v_isub h0 d_Mo_goOn_5 ?_
  refine v_int (nI o) (pred1 o) ?_
  refine v_istore_n h0 d_Mo_goOn_6 (lv' := [(1, .int (nI o)), (0, .ref (ga g 0))]) (lt_kn hn (by decide)) rfl ?_
  refine v_aload_n h0 d_Mo_goOn_7 1 rfl ?_
  refine g_Mo_cellAt_ h0 hC wd_469 d_Mo_goOn_8 ?_
  refine v_iload_n h0 d_Mo_goOn_11 0 rfl ?_
  refine a_Mo_cellAt_ h0 hC o (rfl) (by omega) d_Mo_goOn_12 ?_
  refine v_int (nI c) (h17) ?_
  refine v_istore_n h0 d_Mo_goOn_13 (lv' := [(2, .int (nI c)), (1, .int (nI o)), (0, .ref (ga g 0))]) (lt_kn hn (by decide)) rfl ?_
  refine v_aload_n h0 d_Mo_goOn_14 2 rfl ?_
  refine g_Mo_at_ h0 hC wd_470 d_Mo_goOn_15 ?_
  refine v_iload_n h0 d_Mo_goOn_18 1 rfl ?_
  refine a_Mo_at_ h0 hC o (rfl) (by omega) d_Mo_goOn_19 ?_
  refine v_int (nI k) (h18) ?_
  refine v_istore_n h0 d_Mo_goOn_20 (lv' := [(3, .int (nI k)), (2, .int (nI c)), (1, .int (nI o)), (0, .ref (ga g 0))]) (lt_kn hn (by decide)) rfl ?_
  refine v_aload_n h0 d_Mo_goOn_21 3 rfl ?_
  refine v_iload_n h0 d_Mo_goOn_22 1 rfl ?_
  refine v_iload_n h0 d_Mo_goOn_23 0 rfl ?_
  refine v_callV h0 hC (sR_N0 g) 0 (show 0 < 22 by omega) (show enR g 0 _ = _ from rfl) rfl (av := [.int (nI c), .int (nI k)]) (rest := []) (m_Mo_charAt (kl K) g hI M hc (by omega) hT) wd_564 wd_561 wd_563 ws_32 wd_6 hd_Mo_charAt (by omega) (by decide) rfl rfl (Nat.le_of_ble_eq_true rfl) d_Mo_goOn_24 (fun r9 M9 hp9 => ?_)
  obtain ⟨rfl, rfl⟩ := hp9
  refine v_r1 ?_
  refine v_int (s k) (if_pos hk) ?_
  refine v_istore h0 d_Mo_goOn_27 (lv' := [(4, .int (s k)), (3, .int (nI k)), (2, .int (nI c)), (1, .int (nI o)), (0, .ref (ga g 0))]) (lt_kn hn (by decide)) rfl ?_
  refine v_aload_n h0 d_Mo_goOn_29 4 rfl ?_
  refine g_Mo_stage_ h0 hC wd_471 d_Mo_goOn_30 ?_
  refine v_iload_n h0 d_Mo_goOn_33 3 rfl ?_
  refine a_Mo_stage_ h0 hC o (rfl) (by omega) d_Mo_goOn_34 ?_
  refine v_int (nI 0) (h19) ?_
  refine v_istore h0 d_Mo_goOn_35 (lv' := [(5, .int (nI 0)), (4, .int (s k)), (3, .int (nI k)), (2, .int (nI c)), (1, .int (nI o)), (0, .ref (ga g 0))]) (lt_kn hn (by decide)) rfl ?_
  refine v_aload_n h0 d_Mo_goOn_37 5 rfl ?_
  refine g_Mo_stage_ h0 hC wd_471 d_Mo_goOn_38 ?_
  refine v_iload_n h0 d_Mo_goOn_41 4 rfl ?_
  refine v_iload h0 d_Mo_goOn_42 0 rfl ?_
  refine v_iconst h0 d_Mo_goOn_44 (v := nI 1) (by decide) ?_
  refine v_iadd h0 d_Mo_goOn_45 ?_
  refine v_int (nI (0 + 1)) (nI_add 0 1) ?_
  refine v_int (nI 1) (rfl) ?_
  refine s_Mo_stage_ h0 hC o (rfl) (z := nI 1) (rfl) (by omega) d_Mo_goOn_46 ?_
  refine v_iload h0 d_Mo_goOn_47 1 rfl ?_
  refine v_callS h0 hC (sR_N0 g) (av := [.int (s k)]) (rest := []) (m_Mo_isDigit (kl K) g hI _ _) wd_574 wd_572 wd_573 wd_6 hd_Mo_isDigit (by omega) (by decide) rfl rfl (Nat.le_of_ble_eq_true rfl) d_Mo_goOn_49 (fun r9 M9 hp9 => ?_)
  obtain ⟨rfl, rfl⟩ := hp9
  refine v_r1 ?_
  refine b_if_eq h0 d_Mo_goOn_52 rfl (fun h52 => ?_) (fun h52 => absurd h52 (by unfold kdB; rw [hx]; decide))
  refine v_iload h0 d_Mo_goOn_67 1 rfl ?_
  refine v_callS h0 hC (sR_N0 g) (av := [.int (s k)]) (rest := []) (m_Mo_isName (kl K) g hI _ _) wd_581 wd_579 wd_580 wd_6 hd_Mo_isName (by omega) (by decide) rfl rfl (Nat.le_of_ble_eq_true rfl) d_Mo_goOn_69 (fun r9 M9 hp9 => ?_)
  obtain ⟨rfl, rfl⟩ := hp9
  refine v_r1 ?_
  refine b_if_eq h0 d_Mo_goOn_72 rfl (fun h72 => ?_) (fun h72 => absurd h72 (by unfold kdB; rw [hx]; decide))
  refine v_iload h0 d_Mo_goOn_96 1 rfl ?_
  refine v_callS h0 hC (sR_N0 g) (av := [.int (s k)]) (rest := []) (m_Mo_isLocal (kl K) g hI _ _) wd_567 wd_565 wd_566 wd_6 hd_Mo_isLocal (by omega) (by decide) rfl rfl (Nat.le_of_ble_eq_true rfl) d_Mo_goOn_98 (fun r9 M9 hp9 => ?_)
  obtain ⟨rfl, rfl⟩ := hp9
  refine v_r1 ?_
  refine b_if_eq h0 d_Mo_goOn_101 rfl (fun h101 => ?_) (fun h101 => absurd h101 (by unfold kdB; rw [hx]; decide))
  refine v_iload h0 d_Mo_goOn_129 0 rfl ?_
  refine v_if_ne h0 d_Mo_goOn_131 rfl (fun h131 => absurd h131 (fun z => z rfl)) (fun h131 => ?_)
  refine v_aload_n h0 d_Mo_goOn_134 5 rfl ?_
  refine v_iload_n h0 d_Mo_goOn_135 3 rfl ?_
  refine v_iload h0 d_Mo_goOn_136 1 rfl ?_
  refine v_bipush h0 d_Mo_goOn_138 (v := nI 36) (by decide) ?_
  refine v_icmp_eq h0 d_Mo_goOn_140 rfl (fun h140 => absurd h140 (fun z => absurd (hx.symm.trans ((kd_4 _).mpr z)) (by decide))) (fun h140 => ?_)
  refine v_iload h0 d_Mo_goOn_143 1 rfl ?_
  refine v_bipush h0 d_Mo_goOn_145 (v := nI 33) (by decide) ?_
  refine v_icmp_ne h0 d_Mo_goOn_147 rfl (fun h147 => absurd h147 (fun z => z ((kd_5 _).mp hx))) (fun h147 => ?_)
  refine v_iload_n h0 d_Mo_goOn_150 2 rfl ?_
  refine v_iconst h0 d_Mo_goOn_151 (v := nI 2) (by decide) ?_
  refine v_iadd h0 d_Mo_goOn_152 ?_
  refine v_int (nI (k + 2)) (nI_add k 2) ?_
  refine v_goto h0 d_Mo_goOn_153 rfl ?_
  refine v_callV h0 hC (sR_N0 g) 0 (show 0 < 22 by omega) (show enR g 0 _ = _ from rfl) rfl (av := [.int (nI c), .int (nI (k + 2))]) (rest := []) (m_Mo_enter (kl K) g hI (up2 M 19 o (nI 1)) (o := o + 1) (by rw [up2_n _ _ (by omega)]; exact hf) hfu (by rw [up2_n _ _ (by omega)]; exact ho) (by omega)) wd_679 wd_676 wd_678 ws_55 wd_6 hd_Mo_enter (by omega) (by decide) rfl rfl (Nat.le_of_ble_eq_true rfl) d_Mo_goOn_159 (fun r9 M9 hp9 => ?_)
  obtain ⟨rfl, rfl⟩ := hp9
  refine v_r0 ?_
  refine v_goto h0 d_Mo_goOn_162 rfl ?_
  exact v_vret h0 hC hR d_Mo_goOn_348 (⟨rfl, rfl⟩)
set_option maxHeartbeats 4000000 in
theorem m_Mo_goOn_60 (l : Launch) (g : Gd) (hI : sI (sR g)) (M : Me) {s : Nat → Int32} {c n k o : Nat} (hc : c < 10) (hT : TR M c s n) (hk : k < n) (ho : M 0 25 = nI (o + 1)) (ho3 : o < 300) (h17 : M 17 o = nI c) (h18 : M 18 o = nI k) (hx : kd (s k) = 6) (h19 : M 19 o = nI 0) {fu : Nat} (hf : M 0 28 = nI fu) (hfu : fu ≤ 2000) : CR l g y_Mo_goOn c_Mo_goOn 6 none 3 [.ref (ga g 0)] M (fun r M' => r = none ∧ M' = enF (up2 M 19 o (nI 1)) c (k + 1) (o + 1) fu) := by
  refine Ct.of hI (sR_N0 g) rfl (Nat.le_of_ble_eq_true rfl) (fun K h0 hC hR hkl hn => ?_)
  have hC : Cx (sR g) K gC_Mo _ := hC
  show V K (wp (sR g)) M 0 [(0, .ref (ga g 0))] []
  refine v_aload_n h0 d_Mo_goOn_0 0 rfl ?_
  refine g_Mo_open_ h0 hC wd_473 d_Mo_goOn_1 ?_
  have hn24 := hT.2.1
  refine v_int (nI (o + 1)) (ho) ?_
  refine v_iconst h0 d_Mo_goOn_4 (v := nI 1) (by decide) ?_
  refine v_isub h0 d_Mo_goOn_5 ?_
  refine v_int (nI o) (pred1 o) ?_
  refine v_istore_n h0 d_Mo_goOn_6 (lv' := [(1, .int (nI o)), (0, .ref (ga g 0))]) (lt_kn hn (by decide)) rfl ?_
  refine v_aload_n h0 d_Mo_goOn_7 1 rfl ?_
  refine g_Mo_cellAt_ h0 hC wd_469 d_Mo_goOn_8 ?_
  refine v_iload_n h0 d_Mo_goOn_11 0 rfl ?_
  refine a_Mo_cellAt_ h0 hC o (rfl) (by omega) d_Mo_goOn_12 ?_
  refine v_int (nI c) (h17) ?_
  refine v_istore_n h0 d_Mo_goOn_13 (lv' := [(2, .int (nI c)), (1, .int (nI o)), (0, .ref (ga g 0))]) (lt_kn hn (by decide)) rfl ?_
  refine v_aload_n h0 d_Mo_goOn_14 2 rfl ?_
  refine g_Mo_at_ h0 hC wd_470 d_Mo_goOn_15 ?_
  refine v_iload_n h0 d_Mo_goOn_18 1 rfl ?_
  refine a_Mo_at_ h0 hC o (rfl) (by omega) d_Mo_goOn_19 ?_
  refine v_int (nI k) (h18) ?_
  refine v_istore_n h0 d_Mo_goOn_20 (lv' := [(3, .int (nI k)), (2, .int (nI c)), (1, .int (nI o)), (0, .ref (ga g 0))]) (lt_kn hn (by decide)) rfl ?_
  refine v_aload_n h0 d_Mo_goOn_21 3 rfl ?_
  refine v_iload_n h0 d_Mo_goOn_22 1 rfl ?_
  refine v_iload_n h0 d_Mo_goOn_23 0 rfl ?_
  refine v_callV h0 hC (sR_N0 g) 0 (show 0 < 22 by omega) (show enR g 0 _ = _ from rfl) rfl (av := [.int (nI c), .int (nI k)]) (rest := []) (m_Mo_charAt (kl K) g hI M hc (by omega) hT) wd_564 wd_561 wd_563 ws_32 wd_6 hd_Mo_charAt (by omega) (by decide) rfl rfl (Nat.le_of_ble_eq_true rfl) d_Mo_goOn_24 (fun r9 M9 hp9 => ?_)
  obtain ⟨rfl, rfl⟩ := hp9
  refine v_r1 ?_
  refine v_int (s k) (if_pos hk) ?_
  refine v_istore h0 d_Mo_goOn_27 (lv' := [(4, .int (s k)), (3, .int (nI k)), (2, .int (nI c)), (1, .int (nI o)), (0, .ref (ga g 0))]) (lt_kn hn (by decide)) rfl ?_
  refine v_aload_n h0 d_Mo_goOn_29 4 rfl ?_
  refine g_Mo_stage_ h0 hC wd_471 d_Mo_goOn_30 ?_
  refine v_iload_n h0 d_Mo_goOn_33 3 rfl ?_
  refine a_Mo_stage_ h0 hC o (rfl) (by omega) d_Mo_goOn_34 ?_
  refine v_int (nI 0) (h19) ?_
  refine v_istore h0 d_Mo_goOn_35 (lv' := [(5, .int (nI 0)), (4, .int (s k)), (3, .int (nI k)), (2, .int (nI c)), (1, .int (nI o)), (0, .ref (ga g 0))]) (lt_kn hn (by decide)) rfl ?_
  refine v_aload_n h0 d_Mo_goOn_37 5 rfl ?_
  refine g_Mo_stage_ h0 hC wd_471 d_Mo_goOn_38 ?_
  refine v_iload_n h0 d_Mo_goOn_41 4 rfl ?_
  refine v_iload h0 d_Mo_goOn_42 0 rfl ?_
  refine v_iconst h0 d_Mo_goOn_44 (v := nI 1) (by decide) ?_
  refine v_iadd h0 d_Mo_goOn_45 ?_
  refine v_int (nI (0 + 1)) (nI_add 0 1) ?_
  refine v_int (nI 1) (rfl) ?_
  refine s_Mo_stage_ h0 hC o (rfl) (z := nI 1) (rfl) (by omega) d_Mo_goOn_46 ?_
  refine v_iload h0 d_Mo_goOn_47 1 rfl ?_
  refine v_callS h0 hC (sR_N0 g) (av := [.int (s k)]) (rest := []) (m_Mo_isDigit (kl K) g hI _ _) wd_574 wd_572 wd_573 wd_6 hd_Mo_isDigit (by omega) (by decide) rfl rfl (Nat.le_of_ble_eq_true rfl) d_Mo_goOn_49 (fun r9 M9 hp9 => ?_)
  obtain ⟨rfl, rfl⟩ := hp9
  refine v_r1 ?_
  refine b_if_eq h0 d_Mo_goOn_52 rfl (fun h52 => ?_) (fun h52 => absurd h52 (by unfold kdB; rw [hx]; decide))
  refine v_iload h0 d_Mo_goOn_67 1 rfl ?_
  refine v_callS h0 hC (sR_N0 g) (av := [.int (s k)]) (rest := []) (m_Mo_isName (kl K) g hI _ _) wd_581 wd_579 wd_580 wd_6 hd_Mo_isName (by omega) (by decide) rfl rfl (Nat.le_of_ble_eq_true rfl) d_Mo_goOn_69 (fun r9 M9 hp9 => ?_)
  obtain ⟨rfl, rfl⟩ := hp9
  refine v_r1 ?_
  refine b_if_eq h0 d_Mo_goOn_72 rfl (fun h72 => ?_) (fun h72 => absurd h72 (by unfold kdB; rw [hx]; decide))
  refine v_iload h0 d_Mo_goOn_96 1 rfl ?_
  refine v_callS h0 hC (sR_N0 g) (av := [.int (s k)]) (rest := []) (m_Mo_isLocal (kl K) g hI _ _) wd_567 wd_565 wd_566 wd_6 hd_Mo_isLocal (by omega) (by decide) rfl rfl (Nat.le_of_ble_eq_true rfl) d_Mo_goOn_98 (fun r9 M9 hp9 => ?_)
  obtain ⟨rfl, rfl⟩ := hp9
  refine v_r1 ?_
  refine b_if_eq h0 d_Mo_goOn_101 rfl (fun h101 => ?_) (fun h101 => absurd h101 (by unfold kdB; rw [hx]; decide))
  refine v_iload h0 d_Mo_goOn_129 0 rfl ?_
  refine v_if_ne h0 d_Mo_goOn_131 rfl (fun h131 => absurd h131 (fun z => z rfl)) (fun h131 => ?_)
  refine v_aload_n h0 d_Mo_goOn_134 5 rfl ?_
  refine v_iload_n h0 d_Mo_goOn_135 3 rfl ?_
  refine v_iload h0 d_Mo_goOn_136 1 rfl ?_
  refine v_bipush h0 d_Mo_goOn_138 (v := nI 36) (by decide) ?_
  refine v_icmp_eq h0 d_Mo_goOn_140 rfl (fun h140 => absurd h140 (fun z => absurd (hx.symm.trans ((kd_4 _).mpr z)) (by decide))) (fun h140 => ?_)
  refine v_iload h0 d_Mo_goOn_143 1 rfl ?_
  refine v_bipush h0 d_Mo_goOn_145 (v := nI 33) (by decide) ?_
  refine v_icmp_ne h0 d_Mo_goOn_147 rfl (fun h147 => ?_) (fun h147 => absurd h147 (fun z => absurd (hx.symm.trans ((kd_5 _).mpr z)) (by decide)))
  refine v_iload_n h0 d_Mo_goOn_156 2 rfl ?_
  refine v_iconst h0 d_Mo_goOn_157 (v := nI 1) (by decide) ?_
  refine v_iadd h0 d_Mo_goOn_158 ?_
  refine v_int (nI (k + 1)) (nI_add k 1) ?_
  refine v_callV h0 hC (sR_N0 g) 0 (show 0 < 22 by omega) (show enR g 0 _ = _ from rfl) rfl (av := [.int (nI c), .int (nI (k + 1))]) (rest := []) (m_Mo_enter (kl K) g hI (up2 M 19 o (nI 1)) (o := o + 1) (by rw [up2_n _ _ (by omega)]; exact hf) hfu (by rw [up2_n _ _ (by omega)]; exact ho) (by omega)) wd_679 wd_676 wd_678 ws_55 wd_6 hd_Mo_enter (by omega) (by decide) rfl rfl (Nat.le_of_ble_eq_true rfl) d_Mo_goOn_159 (fun r9 M9 hp9 => ?_)
  obtain ⟨rfl, rfl⟩ := hp9
  refine v_r0 ?_
  refine v_goto h0 d_Mo_goOn_162 rfl ?_
  exact v_vret h0 hC hR d_Mo_goOn_348 (⟨rfl, rfl⟩)
set_option maxHeartbeats 4000000 in
theorem m_Mo_goOn_11 (l : Launch) (g : Gd) (hI : sI (sR g)) (M : Me) {s : Nat → Int32} {c n k o : Nat} (hc : c < 10) (hT : TR M c s n) (hk : k < n) (ho : M 0 25 = nI (o + 1)) (ho3 : o < 300) (h17 : M 17 o = nI c) (h18 : M 18 o = nI k) (hx : kd (s k) = 1) (h19 : M 19 o = nI 1)  : CR l g y_Mo_goOn c_Mo_goOn 6 none 3 [.ref (ga g 0)] M (fun r M' => r = none ∧ M' = lvM (up2 M 19 o (nI 2)) (1 - M 0 29) o) := by
  refine Ct.of hI (sR_N0 g) rfl (Nat.le_of_ble_eq_true rfl) (fun K h0 hC hR hkl hn => ?_)
  have hC : Cx (sR g) K gC_Mo _ := hC
  show V K (wp (sR g)) M 0 [(0, .ref (ga g 0))] []
  refine v_aload_n h0 d_Mo_goOn_0 0 rfl ?_
  refine g_Mo_open_ h0 hC wd_473 d_Mo_goOn_1 ?_
  have hn24 := hT.2.1
  refine v_int (nI (o + 1)) (ho) ?_
  refine v_iconst h0 d_Mo_goOn_4 (v := nI 1) (by decide) ?_
  refine v_isub h0 d_Mo_goOn_5 ?_
  refine v_int (nI o) (pred1 o) ?_
  refine v_istore_n h0 d_Mo_goOn_6 (lv' := [(1, .int (nI o)), (0, .ref (ga g 0))]) (lt_kn hn (by decide)) rfl ?_
  refine v_aload_n h0 d_Mo_goOn_7 1 rfl ?_
  refine g_Mo_cellAt_ h0 hC wd_469 d_Mo_goOn_8 ?_
  refine v_iload_n h0 d_Mo_goOn_11 0 rfl ?_
  refine a_Mo_cellAt_ h0 hC o (rfl) (by omega) d_Mo_goOn_12 ?_
  refine v_int (nI c) (h17) ?_
  refine v_istore_n h0 d_Mo_goOn_13 (lv' := [(2, .int (nI c)), (1, .int (nI o)), (0, .ref (ga g 0))]) (lt_kn hn (by decide)) rfl ?_
  refine v_aload_n h0 d_Mo_goOn_14 2 rfl ?_
  refine g_Mo_at_ h0 hC wd_470 d_Mo_goOn_15 ?_
  refine v_iload_n h0 d_Mo_goOn_18 1 rfl ?_
  refine a_Mo_at_ h0 hC o (rfl) (by omega) d_Mo_goOn_19 ?_
  refine v_int (nI k) (h18) ?_
  refine v_istore_n h0 d_Mo_goOn_20 (lv' := [(3, .int (nI k)), (2, .int (nI c)), (1, .int (nI o)), (0, .ref (ga g 0))]) (lt_kn hn (by decide)) rfl ?_
  refine v_aload_n h0 d_Mo_goOn_21 3 rfl ?_
  refine v_iload_n h0 d_Mo_goOn_22 1 rfl ?_
  refine v_iload_n h0 d_Mo_goOn_23 0 rfl ?_
  refine v_callV h0 hC (sR_N0 g) 0 (show 0 < 22 by omega) (show enR g 0 _ = _ from rfl) rfl (av := [.int (nI c), .int (nI k)]) (rest := []) (m_Mo_charAt (kl K) g hI M hc (by omega) hT) wd_564 wd_561 wd_563 ws_32 wd_6 hd_Mo_charAt (by omega) (by decide) rfl rfl (Nat.le_of_ble_eq_true rfl) d_Mo_goOn_24 (fun r9 M9 hp9 => ?_)
  obtain ⟨rfl, rfl⟩ := hp9
  refine v_r1 ?_
  refine v_int (s k) (if_pos hk) ?_
  refine v_istore h0 d_Mo_goOn_27 (lv' := [(4, .int (s k)), (3, .int (nI k)), (2, .int (nI c)), (1, .int (nI o)), (0, .ref (ga g 0))]) (lt_kn hn (by decide)) rfl ?_
  refine v_aload_n h0 d_Mo_goOn_29 4 rfl ?_
  refine g_Mo_stage_ h0 hC wd_471 d_Mo_goOn_30 ?_
  refine v_iload_n h0 d_Mo_goOn_33 3 rfl ?_
  refine a_Mo_stage_ h0 hC o (rfl) (by omega) d_Mo_goOn_34 ?_
  refine v_int (nI 1) (h19) ?_
  refine v_istore h0 d_Mo_goOn_35 (lv' := [(5, .int (nI 1)), (4, .int (s k)), (3, .int (nI k)), (2, .int (nI c)), (1, .int (nI o)), (0, .ref (ga g 0))]) (lt_kn hn (by decide)) rfl ?_
  refine v_aload_n h0 d_Mo_goOn_37 5 rfl ?_
  refine g_Mo_stage_ h0 hC wd_471 d_Mo_goOn_38 ?_
  refine v_iload_n h0 d_Mo_goOn_41 4 rfl ?_
  refine v_iload h0 d_Mo_goOn_42 0 rfl ?_
  refine v_iconst h0 d_Mo_goOn_44 (v := nI 1) (by decide) ?_
  refine v_iadd h0 d_Mo_goOn_45 ?_
  refine v_int (nI (1 + 1)) (nI_add 1 1) ?_
  refine v_int (nI 2) (rfl) ?_
  refine s_Mo_stage_ h0 hC o (rfl) (z := nI 2) (rfl) (by omega) d_Mo_goOn_46 ?_
  refine v_iload h0 d_Mo_goOn_47 1 rfl ?_
  refine v_callS h0 hC (sR_N0 g) (av := [.int (s k)]) (rest := []) (m_Mo_isDigit (kl K) g hI _ _) wd_574 wd_572 wd_573 wd_6 hd_Mo_isDigit (by omega) (by decide) rfl rfl (Nat.le_of_ble_eq_true rfl) d_Mo_goOn_49 (fun r9 M9 hp9 => ?_)
  obtain ⟨rfl, rfl⟩ := hp9
  refine v_r1 ?_
  refine b_if_eq h0 d_Mo_goOn_52 rfl (fun h52 => ?_) (fun h52 => absurd h52 (by unfold kdB; rw [hx]; decide))
  refine v_iload h0 d_Mo_goOn_67 1 rfl ?_
  refine v_callS h0 hC (sR_N0 g) (av := [.int (s k)]) (rest := []) (m_Mo_isName (kl K) g hI _ _) wd_581 wd_579 wd_580 wd_6 hd_Mo_isName (by omega) (by decide) rfl rfl (Nat.le_of_ble_eq_true rfl) d_Mo_goOn_69 (fun r9 M9 hp9 => ?_)
  obtain ⟨rfl, rfl⟩ := hp9
  refine v_r1 ?_
  refine b_if_eq h0 d_Mo_goOn_72 rfl (fun h72 => ?_) (fun h72 => absurd h72 (by unfold kdB; rw [hx]; decide))
  refine v_iload h0 d_Mo_goOn_96 1 rfl ?_
  refine v_callS h0 hC (sR_N0 g) (av := [.int (s k)]) (rest := []) (m_Mo_isLocal (kl K) g hI _ _) wd_567 wd_565 wd_566 wd_6 hd_Mo_isLocal (by omega) (by decide) rfl rfl (Nat.le_of_ble_eq_true rfl) d_Mo_goOn_98 (fun r9 M9 hp9 => ?_)
  obtain ⟨rfl, rfl⟩ := hp9
  refine v_r1 ?_
  refine b_if_eq h0 d_Mo_goOn_101 rfl (fun h101 => ?_) (fun h101 => absurd h101 (by unfold kdB; rw [hx]; decide))
  refine v_iload h0 d_Mo_goOn_129 0 rfl ?_
  refine v_if_ne h0 d_Mo_goOn_131 rfl (fun h131 => ?_) (fun h131 => absurd h131 (by decide))
  refine v_iload h0 d_Mo_goOn_165 1 rfl ?_
  refine v_bipush h0 d_Mo_goOn_167 (v := nI 126) (by decide) ?_
  refine v_icmp_ne h0 d_Mo_goOn_169 rfl (fun h169 => absurd h169 (fun z => z ((kd_1 _).mp hx))) (fun h169 => ?_)
  refine v_aload_n h0 d_Mo_goOn_172 5 rfl ?_
  refine v_iconst h0 d_Mo_goOn_173 (v := 1) (by decide) ?_
  refine v_aload_n h0 d_Mo_goOn_174 5 rfl ?_
  refine g_Mo_out_ h0 hC wd_477 d_Mo_goOn_175 ?_
  refine v_int (M 0 29) (up2_n _ _ (by omega)) ?_
  refine v_isub h0 d_Mo_goOn_178 ?_
  refine v_callV h0 hC (sR_N0 g) 0 (show 0 < 22 by omega) (show enR g 0 _ = _ from rfl) rfl (av := [.int (1 - (M 0 29))]) (rest := []) (m_Mo_leave (kl K) g hI (up2 M 19 o (nI 2)) _ (by rw [up2_n _ _ (by omega)]; exact ho)) wd_687 wd_684 wd_686 ws_57 wd_6 hd_Mo_leave (by omega) (by decide) rfl rfl (Nat.le_of_ble_eq_true rfl) d_Mo_goOn_179 (fun r9 M9 hp9 => ?_)
  obtain ⟨rfl, rfl⟩ := hp9
  refine v_r0 ?_
  refine v_goto h0 d_Mo_goOn_182 rfl ?_
  exact v_vret h0 hC hR d_Mo_goOn_348 (⟨rfl, rfl⟩)
set_option maxHeartbeats 4000000 in
theorem m_Mo_goOn_21 (l : Launch) (g : Gd) (hI : sI (sR g)) (M : Me) {s : Nat → Int32} {c n k o : Nat} (hc : c < 10) (hT : TR M c s n) (hk : k < n) (ho : M 0 25 = nI (o + 1)) (ho3 : o < 300) (h17 : M 17 o = nI c) (h18 : M 18 o = nI k) (hx : kd (s k) = 2) (h19 : M 19 o = nI 1) {fu : Nat} (hf : M 0 28 = nI fu) (hfu : fu ≤ 2000) {e1 : Nat} (r1 : M 5 (24 * c + k + 1) = nI e1) (l1 : k + 1 < 24) (l2 : e1 ≤ 24) (h38 : ¬ (s k = 38 ∧ M 0 29 = 0)) : CR l g y_Mo_goOn c_Mo_goOn 6 none 3 [.ref (ga g 0)] M (fun r M' => r = none ∧ M' = enF (up2 (up2 M 19 o (nI 2)) 20 o (M 0 29)) c e1 (o + 1) fu) := by
  refine Ct.of hI (sR_N0 g) rfl (Nat.le_of_ble_eq_true rfl) (fun K h0 hC hR hkl hn => ?_)
  have hC : Cx (sR g) K gC_Mo _ := hC
  show V K (wp (sR g)) M 0 [(0, .ref (ga g 0))] []
  refine v_aload_n h0 d_Mo_goOn_0 0 rfl ?_
  refine g_Mo_open_ h0 hC wd_473 d_Mo_goOn_1 ?_
  have hn24 := hT.2.1
  refine v_int (nI (o + 1)) (ho) ?_
  refine v_iconst h0 d_Mo_goOn_4 (v := nI 1) (by decide) ?_
  refine v_isub h0 d_Mo_goOn_5 ?_
  refine v_int (nI o) (pred1 o) ?_
  refine v_istore_n h0 d_Mo_goOn_6 (lv' := [(1, .int (nI o)), (0, .ref (ga g 0))]) (lt_kn hn (by decide)) rfl ?_
  refine v_aload_n h0 d_Mo_goOn_7 1 rfl ?_
  refine g_Mo_cellAt_ h0 hC wd_469 d_Mo_goOn_8 ?_
  refine v_iload_n h0 d_Mo_goOn_11 0 rfl ?_
  refine a_Mo_cellAt_ h0 hC o (rfl) (by omega) d_Mo_goOn_12 ?_
  refine v_int (nI c) (h17) ?_
  refine v_istore_n h0 d_Mo_goOn_13 (lv' := [(2, .int (nI c)), (1, .int (nI o)), (0, .ref (ga g 0))]) (lt_kn hn (by decide)) rfl ?_
  refine v_aload_n h0 d_Mo_goOn_14 2 rfl ?_
  refine g_Mo_at_ h0 hC wd_470 d_Mo_goOn_15 ?_
  refine v_iload_n h0 d_Mo_goOn_18 1 rfl ?_
  refine a_Mo_at_ h0 hC o (rfl) (by omega) d_Mo_goOn_19 ?_
  refine v_int (nI k) (h18) ?_
  refine v_istore_n h0 d_Mo_goOn_20 (lv' := [(3, .int (nI k)), (2, .int (nI c)), (1, .int (nI o)), (0, .ref (ga g 0))]) (lt_kn hn (by decide)) rfl ?_
  refine v_aload_n h0 d_Mo_goOn_21 3 rfl ?_
  refine v_iload_n h0 d_Mo_goOn_22 1 rfl ?_
  refine v_iload_n h0 d_Mo_goOn_23 0 rfl ?_
  refine v_callV h0 hC (sR_N0 g) 0 (show 0 < 22 by omega) (show enR g 0 _ = _ from rfl) rfl (av := [.int (nI c), .int (nI k)]) (rest := []) (m_Mo_charAt (kl K) g hI M hc (by omega) hT) wd_564 wd_561 wd_563 ws_32 wd_6 hd_Mo_charAt (by omega) (by decide) rfl rfl (Nat.le_of_ble_eq_true rfl) d_Mo_goOn_24 (fun r9 M9 hp9 => ?_)
  obtain ⟨rfl, rfl⟩ := hp9
  refine v_r1 ?_
  refine v_int (s k) (if_pos hk) ?_
  refine v_istore h0 d_Mo_goOn_27 (lv' := [(4, .int (s k)), (3, .int (nI k)), (2, .int (nI c)), (1, .int (nI o)), (0, .ref (ga g 0))]) (lt_kn hn (by decide)) rfl ?_
  refine v_aload_n h0 d_Mo_goOn_29 4 rfl ?_
  refine g_Mo_stage_ h0 hC wd_471 d_Mo_goOn_30 ?_
  refine v_iload_n h0 d_Mo_goOn_33 3 rfl ?_
  refine a_Mo_stage_ h0 hC o (rfl) (by omega) d_Mo_goOn_34 ?_
  refine v_int (nI 1) (h19) ?_
  refine v_istore h0 d_Mo_goOn_35 (lv' := [(5, .int (nI 1)), (4, .int (s k)), (3, .int (nI k)), (2, .int (nI c)), (1, .int (nI o)), (0, .ref (ga g 0))]) (lt_kn hn (by decide)) rfl ?_
  refine v_aload_n h0 d_Mo_goOn_37 5 rfl ?_
  refine g_Mo_stage_ h0 hC wd_471 d_Mo_goOn_38 ?_
  refine v_iload_n h0 d_Mo_goOn_41 4 rfl ?_
  refine v_iload h0 d_Mo_goOn_42 0 rfl ?_
  refine v_iconst h0 d_Mo_goOn_44 (v := nI 1) (by decide) ?_
  refine v_iadd h0 d_Mo_goOn_45 ?_
  refine v_int (nI (1 + 1)) (nI_add 1 1) ?_
  refine v_int (nI 2) (rfl) ?_
  refine s_Mo_stage_ h0 hC o (rfl) (z := nI 2) (rfl) (by omega) d_Mo_goOn_46 ?_
  refine v_iload h0 d_Mo_goOn_47 1 rfl ?_
  refine v_callS h0 hC (sR_N0 g) (av := [.int (s k)]) (rest := []) (m_Mo_isDigit (kl K) g hI _ _) wd_574 wd_572 wd_573 wd_6 hd_Mo_isDigit (by omega) (by decide) rfl rfl (Nat.le_of_ble_eq_true rfl) d_Mo_goOn_49 (fun r9 M9 hp9 => ?_)
  obtain ⟨rfl, rfl⟩ := hp9
  refine v_r1 ?_
  refine b_if_eq h0 d_Mo_goOn_52 rfl (fun h52 => ?_) (fun h52 => absurd h52 (by unfold kdB; rw [hx]; decide))
  refine v_iload h0 d_Mo_goOn_67 1 rfl ?_
  refine v_callS h0 hC (sR_N0 g) (av := [.int (s k)]) (rest := []) (m_Mo_isName (kl K) g hI _ _) wd_581 wd_579 wd_580 wd_6 hd_Mo_isName (by omega) (by decide) rfl rfl (Nat.le_of_ble_eq_true rfl) d_Mo_goOn_69 (fun r9 M9 hp9 => ?_)
  obtain ⟨rfl, rfl⟩ := hp9
  refine v_r1 ?_
  refine b_if_eq h0 d_Mo_goOn_72 rfl (fun h72 => ?_) (fun h72 => absurd h72 (by unfold kdB; rw [hx]; decide))
  refine v_iload h0 d_Mo_goOn_96 1 rfl ?_
  refine v_callS h0 hC (sR_N0 g) (av := [.int (s k)]) (rest := []) (m_Mo_isLocal (kl K) g hI _ _) wd_567 wd_565 wd_566 wd_6 hd_Mo_isLocal (by omega) (by decide) rfl rfl (Nat.le_of_ble_eq_true rfl) d_Mo_goOn_98 (fun r9 M9 hp9 => ?_)
  obtain ⟨rfl, rfl⟩ := hp9
  refine v_r1 ?_
  refine b_if_eq h0 d_Mo_goOn_101 rfl (fun h101 => ?_) (fun h101 => absurd h101 (by unfold kdB; rw [hx]; decide))
  refine v_iload h0 d_Mo_goOn_129 0 rfl ?_
  refine v_if_ne h0 d_Mo_goOn_131 rfl (fun h131 => ?_) (fun h131 => absurd h131 (by decide))
  refine v_iload h0 d_Mo_goOn_165 1 rfl ?_
  refine v_bipush h0 d_Mo_goOn_167 (v := nI 126) (by decide) ?_
  refine v_icmp_ne h0 d_Mo_goOn_169 rfl (fun h169 => ?_) (fun h169 => absurd h169 (fun z => absurd (hx.symm.trans ((kd_1 _).mpr z)) (by decide)))
  refine v_iload h0 d_Mo_goOn_185 1 rfl ?_
  refine v_bipush h0 d_Mo_goOn_187 (v := nI 63) (by decide) ?_
  refine v_icmp_ne h0 d_Mo_goOn_189 rfl (fun h189 => ?_) (fun h189 => absurd h189 (fun z => absurd (hx.symm.trans ((kd_3 _).mpr z)) (by decide)))
  refine v_iload h0 d_Mo_goOn_204 1 rfl ?_
  refine v_bipush h0 d_Mo_goOn_206 (v := nI 36) (by decide) ?_
  refine v_icmp_ne h0 d_Mo_goOn_208 rfl (fun h208 => ?_) (fun h208 => absurd h208 (fun z => absurd (hx.symm.trans ((kd_4 _).mpr z)) (by decide)))
  refine v_iload h0 d_Mo_goOn_223 1 rfl ?_
  refine v_bipush h0 d_Mo_goOn_225 (v := nI 33) (by decide) ?_
  refine v_icmp_ne h0 d_Mo_goOn_227 rfl (fun h227 => ?_) (fun h227 => absurd h227 (fun z => absurd (hx.symm.trans ((kd_5 _).mpr z)) (by decide)))
  refine v_iload h0 d_Mo_goOn_241 1 rfl ?_
  refine v_bipush h0 d_Mo_goOn_243 (v := nI 35) (by decide) ?_
  refine v_icmp_ne h0 d_Mo_goOn_245 rfl (fun h245 => ?_) (fun h245 => absurd h245 (fun z => absurd (hx.symm.trans ((kd_6 _).mpr z)) (by decide)))
  refine v_iload h0 d_Mo_goOn_260 1 rfl ?_
  refine v_bipush h0 d_Mo_goOn_262 (v := 38) (by decide) ?_
  refine v_icmp_ne h0 d_Mo_goOn_264 rfl (fun h264 => ?_) (fun h264 => ?_)
  · skip
    refine v_iload h0 d_Mo_goOn_291 0 rfl ?_
    refine v_iconst h0 d_Mo_goOn_293 (v := nI 1) (by decide) ?_
    refine n_icmp_ne h0 (by omega) (by omega) d_Mo_goOn_294 rfl (fun h294 => absurd h294 (by omega)) (fun h294 => ?_)
    refine v_aload_n h0 d_Mo_goOn_297 5 rfl ?_
    refine g_Mo_first_ h0 hC wd_472 d_Mo_goOn_298 ?_
    refine v_iload_n h0 d_Mo_goOn_301 4 rfl ?_
    refine v_aload_n h0 d_Mo_goOn_302 5 rfl ?_
    refine g_Mo_out_ h0 hC wd_477 d_Mo_goOn_303 ?_
    refine v_int (M 0 29) (up2_n _ _ (by omega)) ?_
    refine s_Mo_first_ h0 hC o (rfl) (z := M 0 29) (rfl) (by omega) d_Mo_goOn_306 ?_
    refine v_aload_n h0 d_Mo_goOn_307 5 rfl ?_
    refine v_iload_n h0 d_Mo_goOn_308 3 rfl ?_
    refine v_aload_n h0 d_Mo_goOn_309 5 rfl ?_
    refine g_Mo_end_ h0 hC wd_453 d_Mo_goOn_310 ?_
    refine v_bipush h0 d_Mo_goOn_313 (v := nI 24) (by decide) ?_
    refine v_iload_n h0 d_Mo_goOn_315 3 rfl ?_
    refine v_imul h0 d_Mo_goOn_316 ?_
    refine v_int (nI (24 * c)) (pk_mul 24 c) ?_
    refine v_iload_n h0 d_Mo_goOn_317 2 rfl ?_
    refine v_iadd h0 d_Mo_goOn_318 ?_
    refine v_int (nI (24 * c + k)) (nI_add (24 * c) k) ?_
    refine v_iconst h0 d_Mo_goOn_319 (v := nI 1) (by decide) ?_
    refine v_iadd h0 d_Mo_goOn_320 ?_
    refine v_int (nI (24 * c + k + 1)) (nI_add (24 * c + k) 1) ?_
    refine a_Mo_end_ h0 hC (24 * c + k + 1) (rfl) (by omega) d_Mo_goOn_321 ?_
    refine v_int (nI e1) (by rw [up2_n _ _ (by omega), up2_n _ _ (by omega)]; exact r1) ?_
    refine v_callV h0 hC (sR_N0 g) 0 (show 0 < 22 by omega) (show enR g 0 _ = _ from rfl) rfl (av := [.int (nI c), .int (nI e1)]) (rest := []) (m_Mo_enter (kl K) g hI (up2 (up2 M 19 o (nI 2)) 20 o (M 0 29)) (o := o + 1) (by rw [up2_n _ _ (by omega), up2_n _ _ (by omega)]; exact hf) hfu (by rw [up2_n _ _ (by omega), up2_n _ _ (by omega)]; exact ho) (by omega)) wd_679 wd_676 wd_678 ws_55 wd_6 hd_Mo_enter (by omega) (by decide) rfl rfl (Nat.le_of_ble_eq_true rfl) d_Mo_goOn_322 (fun r9 M9 hp9 => ?_)
    obtain ⟨rfl, rfl⟩ := hp9
    refine v_r0 ?_
    refine v_goto h0 d_Mo_goOn_325 rfl ?_
    exact v_vret h0 hC hR d_Mo_goOn_348 (⟨rfl, rfl⟩)
  · skip
    refine v_iload h0 d_Mo_goOn_267 0 rfl ?_
    refine v_iconst h0 d_Mo_goOn_269 (v := nI 2) (by decide) ?_
    refine n_icmp_eq h0 (by omega) (by omega) d_Mo_goOn_270 rfl (fun h270 => absurd h270 (by omega)) (fun h270 => ?_)
    refine v_aload_n h0 d_Mo_goOn_273 5 rfl ?_
    refine g_Mo_out_ h0 hC wd_477 d_Mo_goOn_274 ?_
    refine v_int (M 0 29) (up2_n _ _ (by omega)) ?_
    refine v_if_ne h0 d_Mo_goOn_277 rfl (fun h277 => ?_) (fun h277 => absurd h277 (fun z => h38 ⟨h264, z⟩))
    refine v_iload h0 d_Mo_goOn_291 0 rfl ?_
    refine v_iconst h0 d_Mo_goOn_293 (v := nI 1) (by decide) ?_
    refine n_icmp_ne h0 (by omega) (by omega) d_Mo_goOn_294 rfl (fun h294 => absurd h294 (by omega)) (fun h294 => ?_)
    refine v_aload_n h0 d_Mo_goOn_297 5 rfl ?_
    refine g_Mo_first_ h0 hC wd_472 d_Mo_goOn_298 ?_
    refine v_iload_n h0 d_Mo_goOn_301 4 rfl ?_
    refine v_aload_n h0 d_Mo_goOn_302 5 rfl ?_
    refine g_Mo_out_ h0 hC wd_477 d_Mo_goOn_303 ?_
    refine v_int (M 0 29) (up2_n _ _ (by omega)) ?_
    refine s_Mo_first_ h0 hC o (rfl) (z := M 0 29) (rfl) (by omega) d_Mo_goOn_306 ?_
    refine v_aload_n h0 d_Mo_goOn_307 5 rfl ?_
    refine v_iload_n h0 d_Mo_goOn_308 3 rfl ?_
    refine v_aload_n h0 d_Mo_goOn_309 5 rfl ?_
    refine g_Mo_end_ h0 hC wd_453 d_Mo_goOn_310 ?_
    refine v_bipush h0 d_Mo_goOn_313 (v := nI 24) (by decide) ?_
    refine v_iload_n h0 d_Mo_goOn_315 3 rfl ?_
    refine v_imul h0 d_Mo_goOn_316 ?_
    refine v_int (nI (24 * c)) (pk_mul 24 c) ?_
    refine v_iload_n h0 d_Mo_goOn_317 2 rfl ?_
    refine v_iadd h0 d_Mo_goOn_318 ?_
    refine v_int (nI (24 * c + k)) (nI_add (24 * c) k) ?_
    refine v_iconst h0 d_Mo_goOn_319 (v := nI 1) (by decide) ?_
    refine v_iadd h0 d_Mo_goOn_320 ?_
    refine v_int (nI (24 * c + k + 1)) (nI_add (24 * c + k) 1) ?_
    refine a_Mo_end_ h0 hC (24 * c + k + 1) (rfl) (by omega) d_Mo_goOn_321 ?_
    refine v_int (nI e1) (by rw [up2_n _ _ (by omega), up2_n _ _ (by omega)]; exact r1) ?_
    refine v_callV h0 hC (sR_N0 g) 0 (show 0 < 22 by omega) (show enR g 0 _ = _ from rfl) rfl (av := [.int (nI c), .int (nI e1)]) (rest := []) (m_Mo_enter (kl K) g hI (up2 (up2 M 19 o (nI 2)) 20 o (M 0 29)) (o := o + 1) (by rw [up2_n _ _ (by omega), up2_n _ _ (by omega)]; exact hf) hfu (by rw [up2_n _ _ (by omega), up2_n _ _ (by omega)]; exact ho) (by omega)) wd_679 wd_676 wd_678 ws_55 wd_6 hd_Mo_enter (by omega) (by decide) rfl rfl (Nat.le_of_ble_eq_true rfl) d_Mo_goOn_322 (fun r9 M9 hp9 => ?_)
    obtain ⟨rfl, rfl⟩ := hp9
    refine v_r0 ?_
    refine v_goto h0 d_Mo_goOn_325 rfl ?_
    exact v_vret h0 hC hR d_Mo_goOn_348 (⟨rfl, rfl⟩)
set_option maxHeartbeats 4000000 in
theorem m_Mo_goOn_21z (l : Launch) (g : Gd) (hI : sI (sR g)) (M : Me) {s : Nat → Int32} {c n k o : Nat} (hc : c < 10) (hT : TR M c s n) (hk : k < n) (ho : M 0 25 = nI (o + 1)) (ho3 : o < 300) (h17 : M 17 o = nI c) (h18 : M 18 o = nI k) (hx : kd (s k) = 2) (h19 : M 19 o = nI 1) (h38 : s k = 38) (hz : M 0 29 = 0) : CR l g y_Mo_goOn c_Mo_goOn 6 none 3 [.ref (ga g 0)] M (fun r M' => r = none ∧ M' = lvM (up2 M 19 o (nI 2)) (M 0 29) o) := by
  refine Ct.of hI (sR_N0 g) rfl (Nat.le_of_ble_eq_true rfl) (fun K h0 hC hR hkl hn => ?_)
  have hC : Cx (sR g) K gC_Mo _ := hC
  show V K (wp (sR g)) M 0 [(0, .ref (ga g 0))] []
  refine v_aload_n h0 d_Mo_goOn_0 0 rfl ?_
  refine g_Mo_open_ h0 hC wd_473 d_Mo_goOn_1 ?_
  have hn24 := hT.2.1
  refine v_int (nI (o + 1)) (ho) ?_
  refine v_iconst h0 d_Mo_goOn_4 (v := nI 1) (by decide) ?_
  refine v_isub h0 d_Mo_goOn_5 ?_
  refine v_int (nI o) (pred1 o) ?_
  refine v_istore_n h0 d_Mo_goOn_6 (lv' := [(1, .int (nI o)), (0, .ref (ga g 0))]) (lt_kn hn (by decide)) rfl ?_
  refine v_aload_n h0 d_Mo_goOn_7 1 rfl ?_
  refine g_Mo_cellAt_ h0 hC wd_469 d_Mo_goOn_8 ?_
  refine v_iload_n h0 d_Mo_goOn_11 0 rfl ?_
  refine a_Mo_cellAt_ h0 hC o (rfl) (by omega) d_Mo_goOn_12 ?_
  refine v_int (nI c) (h17) ?_
  refine v_istore_n h0 d_Mo_goOn_13 (lv' := [(2, .int (nI c)), (1, .int (nI o)), (0, .ref (ga g 0))]) (lt_kn hn (by decide)) rfl ?_
  refine v_aload_n h0 d_Mo_goOn_14 2 rfl ?_
  refine g_Mo_at_ h0 hC wd_470 d_Mo_goOn_15 ?_
  refine v_iload_n h0 d_Mo_goOn_18 1 rfl ?_
  refine a_Mo_at_ h0 hC o (rfl) (by omega) d_Mo_goOn_19 ?_
  refine v_int (nI k) (h18) ?_
  refine v_istore_n h0 d_Mo_goOn_20 (lv' := [(3, .int (nI k)), (2, .int (nI c)), (1, .int (nI o)), (0, .ref (ga g 0))]) (lt_kn hn (by decide)) rfl ?_
  refine v_aload_n h0 d_Mo_goOn_21 3 rfl ?_
  refine v_iload_n h0 d_Mo_goOn_22 1 rfl ?_
  refine v_iload_n h0 d_Mo_goOn_23 0 rfl ?_
  refine v_callV h0 hC (sR_N0 g) 0 (show 0 < 22 by omega) (show enR g 0 _ = _ from rfl) rfl (av := [.int (nI c), .int (nI k)]) (rest := []) (m_Mo_charAt (kl K) g hI M hc (by omega) hT) wd_564 wd_561 wd_563 ws_32 wd_6 hd_Mo_charAt (by omega) (by decide) rfl rfl (Nat.le_of_ble_eq_true rfl) d_Mo_goOn_24 (fun r9 M9 hp9 => ?_)
  obtain ⟨rfl, rfl⟩ := hp9
  refine v_r1 ?_
  refine v_int (s k) (if_pos hk) ?_
  refine v_istore h0 d_Mo_goOn_27 (lv' := [(4, .int (s k)), (3, .int (nI k)), (2, .int (nI c)), (1, .int (nI o)), (0, .ref (ga g 0))]) (lt_kn hn (by decide)) rfl ?_
  refine v_aload_n h0 d_Mo_goOn_29 4 rfl ?_
  refine g_Mo_stage_ h0 hC wd_471 d_Mo_goOn_30 ?_
  refine v_iload_n h0 d_Mo_goOn_33 3 rfl ?_
  refine a_Mo_stage_ h0 hC o (rfl) (by omega) d_Mo_goOn_34 ?_
  refine v_int (nI 1) (h19) ?_
  refine v_istore h0 d_Mo_goOn_35 (lv' := [(5, .int (nI 1)), (4, .int (s k)), (3, .int (nI k)), (2, .int (nI c)), (1, .int (nI o)), (0, .ref (ga g 0))]) (lt_kn hn (by decide)) rfl ?_
  refine v_aload_n h0 d_Mo_goOn_37 5 rfl ?_
  refine g_Mo_stage_ h0 hC wd_471 d_Mo_goOn_38 ?_
  refine v_iload_n h0 d_Mo_goOn_41 4 rfl ?_
  refine v_iload h0 d_Mo_goOn_42 0 rfl ?_
  refine v_iconst h0 d_Mo_goOn_44 (v := nI 1) (by decide) ?_
  refine v_iadd h0 d_Mo_goOn_45 ?_
  refine v_int (nI (1 + 1)) (nI_add 1 1) ?_
  refine v_int (nI 2) (rfl) ?_
  refine s_Mo_stage_ h0 hC o (rfl) (z := nI 2) (rfl) (by omega) d_Mo_goOn_46 ?_
  refine v_iload h0 d_Mo_goOn_47 1 rfl ?_
  refine v_callS h0 hC (sR_N0 g) (av := [.int (s k)]) (rest := []) (m_Mo_isDigit (kl K) g hI _ _) wd_574 wd_572 wd_573 wd_6 hd_Mo_isDigit (by omega) (by decide) rfl rfl (Nat.le_of_ble_eq_true rfl) d_Mo_goOn_49 (fun r9 M9 hp9 => ?_)
  obtain ⟨rfl, rfl⟩ := hp9
  refine v_r1 ?_
  refine b_if_eq h0 d_Mo_goOn_52 rfl (fun h52 => ?_) (fun h52 => absurd h52 (by unfold kdB; rw [hx]; decide))
  refine v_iload h0 d_Mo_goOn_67 1 rfl ?_
  refine v_callS h0 hC (sR_N0 g) (av := [.int (s k)]) (rest := []) (m_Mo_isName (kl K) g hI _ _) wd_581 wd_579 wd_580 wd_6 hd_Mo_isName (by omega) (by decide) rfl rfl (Nat.le_of_ble_eq_true rfl) d_Mo_goOn_69 (fun r9 M9 hp9 => ?_)
  obtain ⟨rfl, rfl⟩ := hp9
  refine v_r1 ?_
  refine b_if_eq h0 d_Mo_goOn_72 rfl (fun h72 => ?_) (fun h72 => absurd h72 (by unfold kdB; rw [hx]; decide))
  refine v_iload h0 d_Mo_goOn_96 1 rfl ?_
  refine v_callS h0 hC (sR_N0 g) (av := [.int (s k)]) (rest := []) (m_Mo_isLocal (kl K) g hI _ _) wd_567 wd_565 wd_566 wd_6 hd_Mo_isLocal (by omega) (by decide) rfl rfl (Nat.le_of_ble_eq_true rfl) d_Mo_goOn_98 (fun r9 M9 hp9 => ?_)
  obtain ⟨rfl, rfl⟩ := hp9
  refine v_r1 ?_
  refine b_if_eq h0 d_Mo_goOn_101 rfl (fun h101 => ?_) (fun h101 => absurd h101 (by unfold kdB; rw [hx]; decide))
  refine v_iload h0 d_Mo_goOn_129 0 rfl ?_
  refine v_if_ne h0 d_Mo_goOn_131 rfl (fun h131 => ?_) (fun h131 => absurd h131 (by decide))
  refine v_iload h0 d_Mo_goOn_165 1 rfl ?_
  refine v_bipush h0 d_Mo_goOn_167 (v := nI 126) (by decide) ?_
  refine v_icmp_ne h0 d_Mo_goOn_169 rfl (fun h169 => ?_) (fun h169 => absurd h169 (fun z => absurd (hx.symm.trans ((kd_1 _).mpr z)) (by decide)))
  refine v_iload h0 d_Mo_goOn_185 1 rfl ?_
  refine v_bipush h0 d_Mo_goOn_187 (v := nI 63) (by decide) ?_
  refine v_icmp_ne h0 d_Mo_goOn_189 rfl (fun h189 => ?_) (fun h189 => absurd h189 (fun z => absurd (hx.symm.trans ((kd_3 _).mpr z)) (by decide)))
  refine v_iload h0 d_Mo_goOn_204 1 rfl ?_
  refine v_bipush h0 d_Mo_goOn_206 (v := nI 36) (by decide) ?_
  refine v_icmp_ne h0 d_Mo_goOn_208 rfl (fun h208 => ?_) (fun h208 => absurd h208 (fun z => absurd (hx.symm.trans ((kd_4 _).mpr z)) (by decide)))
  refine v_iload h0 d_Mo_goOn_223 1 rfl ?_
  refine v_bipush h0 d_Mo_goOn_225 (v := nI 33) (by decide) ?_
  refine v_icmp_ne h0 d_Mo_goOn_227 rfl (fun h227 => ?_) (fun h227 => absurd h227 (fun z => absurd (hx.symm.trans ((kd_5 _).mpr z)) (by decide)))
  refine v_iload h0 d_Mo_goOn_241 1 rfl ?_
  refine v_bipush h0 d_Mo_goOn_243 (v := nI 35) (by decide) ?_
  refine v_icmp_ne h0 d_Mo_goOn_245 rfl (fun h245 => ?_) (fun h245 => absurd h245 (fun z => absurd (hx.symm.trans ((kd_6 _).mpr z)) (by decide)))
  refine v_iload h0 d_Mo_goOn_260 1 rfl ?_
  refine v_bipush h0 d_Mo_goOn_262 (v := 38) (by decide) ?_
  refine v_icmp_ne h0 d_Mo_goOn_264 rfl (fun h264 => absurd h264 (fun z => z h38)) (fun h264 => ?_)
  refine v_iload h0 d_Mo_goOn_267 0 rfl ?_
  refine v_iconst h0 d_Mo_goOn_269 (v := nI 2) (by decide) ?_
  refine n_icmp_eq h0 (by omega) (by omega) d_Mo_goOn_270 rfl (fun h270 => absurd h270 (by omega)) (fun h270 => ?_)
  refine v_aload_n h0 d_Mo_goOn_273 5 rfl ?_
  refine g_Mo_out_ h0 hC wd_477 d_Mo_goOn_274 ?_
  refine v_int (M 0 29) (up2_n _ _ (by omega)) ?_
  refine v_if_ne h0 d_Mo_goOn_277 rfl (fun h277 => absurd h277 (fun z => z hz)) (fun h277 => ?_)
  refine v_aload_n h0 d_Mo_goOn_280 5 rfl ?_
  refine v_aload_n h0 d_Mo_goOn_281 5 rfl ?_
  refine g_Mo_out_ h0 hC wd_477 d_Mo_goOn_282 ?_
  refine v_int (M 0 29) (up2_n _ _ (by omega)) ?_
  refine v_callV h0 hC (sR_N0 g) 0 (show 0 < 22 by omega) (show enR g 0 _ = _ from rfl) rfl (av := [.int (M 0 29)]) (rest := []) (m_Mo_leave (kl K) g hI (up2 M 19 o (nI 2)) _ (by rw [up2_n _ _ (by omega)]; exact ho)) wd_687 wd_684 wd_686 ws_57 wd_6 hd_Mo_leave (by omega) (by decide) rfl rfl (Nat.le_of_ble_eq_true rfl) d_Mo_goOn_285 (fun r9 M9 hp9 => ?_)
  obtain ⟨rfl, rfl⟩ := hp9
  refine v_r0 ?_
  refine v_goto h0 d_Mo_goOn_288 rfl ?_
  exact v_vret h0 hC hR d_Mo_goOn_348 (⟨rfl, rfl⟩)
set_option maxHeartbeats 4000000 in
theorem m_Mo_goOn_22a (l : Launch) (g : Gd) (hI : sI (sR g)) (M : Me) {s : Nat → Int32} {c n k o : Nat} (hc : c < 10) (hT : TR M c s n) (hk : k < n) (ho : M 0 25 = nI (o + 1)) (ho3 : o < 300) (h17 : M 17 o = nI c) (h18 : M 18 o = nI k) (hx : kd (s k) = 2) (h19 : M 19 o = nI 2) (h38 : s k = 38) : CR l g y_Mo_goOn c_Mo_goOn 6 none 3 [.ref (ga g 0)] M (fun r M' => r = none ∧ M' = lvM (up2 M 19 o (nI 3)) (M 0 29) o) := by
  refine Ct.of hI (sR_N0 g) rfl (Nat.le_of_ble_eq_true rfl) (fun K h0 hC hR hkl hn => ?_)
  have hC : Cx (sR g) K gC_Mo _ := hC
  show V K (wp (sR g)) M 0 [(0, .ref (ga g 0))] []
  refine v_aload_n h0 d_Mo_goOn_0 0 rfl ?_
  refine g_Mo_open_ h0 hC wd_473 d_Mo_goOn_1 ?_
  have hn24 := hT.2.1
  refine v_int (nI (o + 1)) (ho) ?_
  refine v_iconst h0 d_Mo_goOn_4 (v := nI 1) (by decide) ?_
  refine v_isub h0 d_Mo_goOn_5 ?_
  refine v_int (nI o) (pred1 o) ?_
  refine v_istore_n h0 d_Mo_goOn_6 (lv' := [(1, .int (nI o)), (0, .ref (ga g 0))]) (lt_kn hn (by decide)) rfl ?_
  refine v_aload_n h0 d_Mo_goOn_7 1 rfl ?_
  refine g_Mo_cellAt_ h0 hC wd_469 d_Mo_goOn_8 ?_
  refine v_iload_n h0 d_Mo_goOn_11 0 rfl ?_
  refine a_Mo_cellAt_ h0 hC o (rfl) (by omega) d_Mo_goOn_12 ?_
  refine v_int (nI c) (h17) ?_
  refine v_istore_n h0 d_Mo_goOn_13 (lv' := [(2, .int (nI c)), (1, .int (nI o)), (0, .ref (ga g 0))]) (lt_kn hn (by decide)) rfl ?_
  refine v_aload_n h0 d_Mo_goOn_14 2 rfl ?_
  refine g_Mo_at_ h0 hC wd_470 d_Mo_goOn_15 ?_
  refine v_iload_n h0 d_Mo_goOn_18 1 rfl ?_
  refine a_Mo_at_ h0 hC o (rfl) (by omega) d_Mo_goOn_19 ?_
  refine v_int (nI k) (h18) ?_
  refine v_istore_n h0 d_Mo_goOn_20 (lv' := [(3, .int (nI k)), (2, .int (nI c)), (1, .int (nI o)), (0, .ref (ga g 0))]) (lt_kn hn (by decide)) rfl ?_
  refine v_aload_n h0 d_Mo_goOn_21 3 rfl ?_
  refine v_iload_n h0 d_Mo_goOn_22 1 rfl ?_
  refine v_iload_n h0 d_Mo_goOn_23 0 rfl ?_
  refine v_callV h0 hC (sR_N0 g) 0 (show 0 < 22 by omega) (show enR g 0 _ = _ from rfl) rfl (av := [.int (nI c), .int (nI k)]) (rest := []) (m_Mo_charAt (kl K) g hI M hc (by omega) hT) wd_564 wd_561 wd_563 ws_32 wd_6 hd_Mo_charAt (by omega) (by decide) rfl rfl (Nat.le_of_ble_eq_true rfl) d_Mo_goOn_24 (fun r9 M9 hp9 => ?_)
  obtain ⟨rfl, rfl⟩ := hp9
  refine v_r1 ?_
  refine v_int (s k) (if_pos hk) ?_
  refine v_istore h0 d_Mo_goOn_27 (lv' := [(4, .int (s k)), (3, .int (nI k)), (2, .int (nI c)), (1, .int (nI o)), (0, .ref (ga g 0))]) (lt_kn hn (by decide)) rfl ?_
  refine v_aload_n h0 d_Mo_goOn_29 4 rfl ?_
  refine g_Mo_stage_ h0 hC wd_471 d_Mo_goOn_30 ?_
  refine v_iload_n h0 d_Mo_goOn_33 3 rfl ?_
  refine a_Mo_stage_ h0 hC o (rfl) (by omega) d_Mo_goOn_34 ?_
  refine v_int (nI 2) (h19) ?_
  refine v_istore h0 d_Mo_goOn_35 (lv' := [(5, .int (nI 2)), (4, .int (s k)), (3, .int (nI k)), (2, .int (nI c)), (1, .int (nI o)), (0, .ref (ga g 0))]) (lt_kn hn (by decide)) rfl ?_
  refine v_aload_n h0 d_Mo_goOn_37 5 rfl ?_
  refine g_Mo_stage_ h0 hC wd_471 d_Mo_goOn_38 ?_
  refine v_iload_n h0 d_Mo_goOn_41 4 rfl ?_
  refine v_iload h0 d_Mo_goOn_42 0 rfl ?_
  refine v_iconst h0 d_Mo_goOn_44 (v := nI 1) (by decide) ?_
  refine v_iadd h0 d_Mo_goOn_45 ?_
  refine v_int (nI (2 + 1)) (nI_add 2 1) ?_
  refine v_int (nI 3) (rfl) ?_
  refine s_Mo_stage_ h0 hC o (rfl) (z := nI 3) (rfl) (by omega) d_Mo_goOn_46 ?_
  refine v_iload h0 d_Mo_goOn_47 1 rfl ?_
  refine v_callS h0 hC (sR_N0 g) (av := [.int (s k)]) (rest := []) (m_Mo_isDigit (kl K) g hI _ _) wd_574 wd_572 wd_573 wd_6 hd_Mo_isDigit (by omega) (by decide) rfl rfl (Nat.le_of_ble_eq_true rfl) d_Mo_goOn_49 (fun r9 M9 hp9 => ?_)
  obtain ⟨rfl, rfl⟩ := hp9
  refine v_r1 ?_
  refine b_if_eq h0 d_Mo_goOn_52 rfl (fun h52 => ?_) (fun h52 => absurd h52 (by unfold kdB; rw [hx]; decide))
  refine v_iload h0 d_Mo_goOn_67 1 rfl ?_
  refine v_callS h0 hC (sR_N0 g) (av := [.int (s k)]) (rest := []) (m_Mo_isName (kl K) g hI _ _) wd_581 wd_579 wd_580 wd_6 hd_Mo_isName (by omega) (by decide) rfl rfl (Nat.le_of_ble_eq_true rfl) d_Mo_goOn_69 (fun r9 M9 hp9 => ?_)
  obtain ⟨rfl, rfl⟩ := hp9
  refine v_r1 ?_
  refine b_if_eq h0 d_Mo_goOn_72 rfl (fun h72 => ?_) (fun h72 => absurd h72 (by unfold kdB; rw [hx]; decide))
  refine v_iload h0 d_Mo_goOn_96 1 rfl ?_
  refine v_callS h0 hC (sR_N0 g) (av := [.int (s k)]) (rest := []) (m_Mo_isLocal (kl K) g hI _ _) wd_567 wd_565 wd_566 wd_6 hd_Mo_isLocal (by omega) (by decide) rfl rfl (Nat.le_of_ble_eq_true rfl) d_Mo_goOn_98 (fun r9 M9 hp9 => ?_)
  obtain ⟨rfl, rfl⟩ := hp9
  refine v_r1 ?_
  refine b_if_eq h0 d_Mo_goOn_101 rfl (fun h101 => ?_) (fun h101 => absurd h101 (by unfold kdB; rw [hx]; decide))
  refine v_iload h0 d_Mo_goOn_129 0 rfl ?_
  refine v_if_ne h0 d_Mo_goOn_131 rfl (fun h131 => ?_) (fun h131 => absurd h131 (by decide))
  refine v_iload h0 d_Mo_goOn_165 1 rfl ?_
  refine v_bipush h0 d_Mo_goOn_167 (v := nI 126) (by decide) ?_
  refine v_icmp_ne h0 d_Mo_goOn_169 rfl (fun h169 => ?_) (fun h169 => absurd h169 (fun z => absurd (hx.symm.trans ((kd_1 _).mpr z)) (by decide)))
  refine v_iload h0 d_Mo_goOn_185 1 rfl ?_
  refine v_bipush h0 d_Mo_goOn_187 (v := nI 63) (by decide) ?_
  refine v_icmp_ne h0 d_Mo_goOn_189 rfl (fun h189 => ?_) (fun h189 => absurd h189 (fun z => absurd (hx.symm.trans ((kd_3 _).mpr z)) (by decide)))
  refine v_iload h0 d_Mo_goOn_204 1 rfl ?_
  refine v_bipush h0 d_Mo_goOn_206 (v := nI 36) (by decide) ?_
  refine v_icmp_ne h0 d_Mo_goOn_208 rfl (fun h208 => ?_) (fun h208 => absurd h208 (fun z => absurd (hx.symm.trans ((kd_4 _).mpr z)) (by decide)))
  refine v_iload h0 d_Mo_goOn_223 1 rfl ?_
  refine v_bipush h0 d_Mo_goOn_225 (v := nI 33) (by decide) ?_
  refine v_icmp_ne h0 d_Mo_goOn_227 rfl (fun h227 => ?_) (fun h227 => absurd h227 (fun z => absurd (hx.symm.trans ((kd_5 _).mpr z)) (by decide)))
  refine v_iload h0 d_Mo_goOn_241 1 rfl ?_
  refine v_bipush h0 d_Mo_goOn_243 (v := nI 35) (by decide) ?_
  refine v_icmp_ne h0 d_Mo_goOn_245 rfl (fun h245 => ?_) (fun h245 => absurd h245 (fun z => absurd (hx.symm.trans ((kd_6 _).mpr z)) (by decide)))
  refine v_iload h0 d_Mo_goOn_260 1 rfl ?_
  refine v_bipush h0 d_Mo_goOn_262 (v := 38) (by decide) ?_
  refine v_icmp_ne h0 d_Mo_goOn_264 rfl (fun h264 => absurd h264 (fun z => z h38)) (fun h264 => ?_)
  refine v_iload h0 d_Mo_goOn_267 0 rfl ?_
  refine v_iconst h0 d_Mo_goOn_269 (v := nI 2) (by decide) ?_
  refine n_icmp_eq h0 (by omega) (by omega) d_Mo_goOn_270 rfl (fun h270 => ?_) (fun h270 => absurd h270 (by omega))
  refine v_aload_n h0 d_Mo_goOn_280 5 rfl ?_
  refine v_aload_n h0 d_Mo_goOn_281 5 rfl ?_
  refine g_Mo_out_ h0 hC wd_477 d_Mo_goOn_282 ?_
  refine v_int (M 0 29) (up2_n _ _ (by omega)) ?_
  refine v_callV h0 hC (sR_N0 g) 0 (show 0 < 22 by omega) (show enR g 0 _ = _ from rfl) rfl (av := [.int (M 0 29)]) (rest := []) (m_Mo_leave (kl K) g hI (up2 M 19 o (nI 3)) _ (by rw [up2_n _ _ (by omega)]; exact ho)) wd_687 wd_684 wd_686 ws_57 wd_6 hd_Mo_leave (by omega) (by decide) rfl rfl (Nat.le_of_ble_eq_true rfl) d_Mo_goOn_285 (fun r9 M9 hp9 => ?_)
  obtain ⟨rfl, rfl⟩ := hp9
  refine v_r0 ?_
  refine v_goto h0 d_Mo_goOn_288 rfl ?_
  exact v_vret h0 hC hR d_Mo_goOn_348 (⟨rfl, rfl⟩)
set_option maxHeartbeats 4000000 in
theorem m_Mo_goOn_22 (l : Launch) (g : Gd) (hI : sI (sR g)) (M : Me) {s : Nat → Int32} {c n k o : Nat} (hc : c < 10) (hT : TR M c s n) (hk : k < n) (ho : M 0 25 = nI (o + 1)) (ho3 : o < 300) (h17 : M 17 o = nI c) (h18 : M 18 o = nI k) (hx : kd (s k) = 2) (h19 : M 19 o = nI 2) (h38 : ¬ s k = 38) : CR l g y_Mo_goOn c_Mo_goOn 6 none 3 [.ref (ga g 0)] M (fun r M' => r = none ∧ M' = lvM (if (jn (s k) (M 20 o) (M 0 29) 0).1 = 0 then (up2 M 19 o (nI 3)) else up2 (up2 M 19 o (nI 3)) 0 30 (nI 7)) (jn (s k) (M 20 o) (M 0 29) 0).2.1 o) := by
  refine Ct.of hI (sR_N0 g) rfl (Nat.le_of_ble_eq_true rfl) (fun K h0 hC hR hkl hn => ?_)
  have hC : Cx (sR g) K gC_Mo _ := hC
  show V K (wp (sR g)) M 0 [(0, .ref (ga g 0))] []
  refine v_aload_n h0 d_Mo_goOn_0 0 rfl ?_
  refine g_Mo_open_ h0 hC wd_473 d_Mo_goOn_1 ?_
  have hn24 := hT.2.1
  refine v_int (nI (o + 1)) (ho) ?_
  refine v_iconst h0 d_Mo_goOn_4 (v := nI 1) (by decide) ?_
  refine v_isub h0 d_Mo_goOn_5 ?_
  refine v_int (nI o) (pred1 o) ?_
  refine v_istore_n h0 d_Mo_goOn_6 (lv' := [(1, .int (nI o)), (0, .ref (ga g 0))]) (lt_kn hn (by decide)) rfl ?_
  refine v_aload_n h0 d_Mo_goOn_7 1 rfl ?_
  refine g_Mo_cellAt_ h0 hC wd_469 d_Mo_goOn_8 ?_
  refine v_iload_n h0 d_Mo_goOn_11 0 rfl ?_
  refine a_Mo_cellAt_ h0 hC o (rfl) (by omega) d_Mo_goOn_12 ?_
  refine v_int (nI c) (h17) ?_
  refine v_istore_n h0 d_Mo_goOn_13 (lv' := [(2, .int (nI c)), (1, .int (nI o)), (0, .ref (ga g 0))]) (lt_kn hn (by decide)) rfl ?_
  refine v_aload_n h0 d_Mo_goOn_14 2 rfl ?_
  refine g_Mo_at_ h0 hC wd_470 d_Mo_goOn_15 ?_
  refine v_iload_n h0 d_Mo_goOn_18 1 rfl ?_
  refine a_Mo_at_ h0 hC o (rfl) (by omega) d_Mo_goOn_19 ?_
  refine v_int (nI k) (h18) ?_
  refine v_istore_n h0 d_Mo_goOn_20 (lv' := [(3, .int (nI k)), (2, .int (nI c)), (1, .int (nI o)), (0, .ref (ga g 0))]) (lt_kn hn (by decide)) rfl ?_
  refine v_aload_n h0 d_Mo_goOn_21 3 rfl ?_
  refine v_iload_n h0 d_Mo_goOn_22 1 rfl ?_
  refine v_iload_n h0 d_Mo_goOn_23 0 rfl ?_
  refine v_callV h0 hC (sR_N0 g) 0 (show 0 < 22 by omega) (show enR g 0 _ = _ from rfl) rfl (av := [.int (nI c), .int (nI k)]) (rest := []) (m_Mo_charAt (kl K) g hI M hc (by omega) hT) wd_564 wd_561 wd_563 ws_32 wd_6 hd_Mo_charAt (by omega) (by decide) rfl rfl (Nat.le_of_ble_eq_true rfl) d_Mo_goOn_24 (fun r9 M9 hp9 => ?_)
  obtain ⟨rfl, rfl⟩ := hp9
  refine v_r1 ?_
  refine v_int (s k) (if_pos hk) ?_
  refine v_istore h0 d_Mo_goOn_27 (lv' := [(4, .int (s k)), (3, .int (nI k)), (2, .int (nI c)), (1, .int (nI o)), (0, .ref (ga g 0))]) (lt_kn hn (by decide)) rfl ?_
  refine v_aload_n h0 d_Mo_goOn_29 4 rfl ?_
  refine g_Mo_stage_ h0 hC wd_471 d_Mo_goOn_30 ?_
  refine v_iload_n h0 d_Mo_goOn_33 3 rfl ?_
  refine a_Mo_stage_ h0 hC o (rfl) (by omega) d_Mo_goOn_34 ?_
  refine v_int (nI 2) (h19) ?_
  refine v_istore h0 d_Mo_goOn_35 (lv' := [(5, .int (nI 2)), (4, .int (s k)), (3, .int (nI k)), (2, .int (nI c)), (1, .int (nI o)), (0, .ref (ga g 0))]) (lt_kn hn (by decide)) rfl ?_
  refine v_aload_n h0 d_Mo_goOn_37 5 rfl ?_
  refine g_Mo_stage_ h0 hC wd_471 d_Mo_goOn_38 ?_
  refine v_iload_n h0 d_Mo_goOn_41 4 rfl ?_
  refine v_iload h0 d_Mo_goOn_42 0 rfl ?_
  refine v_iconst h0 d_Mo_goOn_44 (v := nI 1) (by decide) ?_
  refine v_iadd h0 d_Mo_goOn_45 ?_
  refine v_int (nI (2 + 1)) (nI_add 2 1) ?_
  refine v_int (nI 3) (rfl) ?_
  refine s_Mo_stage_ h0 hC o (rfl) (z := nI 3) (rfl) (by omega) d_Mo_goOn_46 ?_
  refine v_iload h0 d_Mo_goOn_47 1 rfl ?_
  refine v_callS h0 hC (sR_N0 g) (av := [.int (s k)]) (rest := []) (m_Mo_isDigit (kl K) g hI _ _) wd_574 wd_572 wd_573 wd_6 hd_Mo_isDigit (by omega) (by decide) rfl rfl (Nat.le_of_ble_eq_true rfl) d_Mo_goOn_49 (fun r9 M9 hp9 => ?_)
  obtain ⟨rfl, rfl⟩ := hp9
  refine v_r1 ?_
  refine b_if_eq h0 d_Mo_goOn_52 rfl (fun h52 => ?_) (fun h52 => absurd h52 (by unfold kdB; rw [hx]; decide))
  refine v_iload h0 d_Mo_goOn_67 1 rfl ?_
  refine v_callS h0 hC (sR_N0 g) (av := [.int (s k)]) (rest := []) (m_Mo_isName (kl K) g hI _ _) wd_581 wd_579 wd_580 wd_6 hd_Mo_isName (by omega) (by decide) rfl rfl (Nat.le_of_ble_eq_true rfl) d_Mo_goOn_69 (fun r9 M9 hp9 => ?_)
  obtain ⟨rfl, rfl⟩ := hp9
  refine v_r1 ?_
  refine b_if_eq h0 d_Mo_goOn_72 rfl (fun h72 => ?_) (fun h72 => absurd h72 (by unfold kdB; rw [hx]; decide))
  refine v_iload h0 d_Mo_goOn_96 1 rfl ?_
  refine v_callS h0 hC (sR_N0 g) (av := [.int (s k)]) (rest := []) (m_Mo_isLocal (kl K) g hI _ _) wd_567 wd_565 wd_566 wd_6 hd_Mo_isLocal (by omega) (by decide) rfl rfl (Nat.le_of_ble_eq_true rfl) d_Mo_goOn_98 (fun r9 M9 hp9 => ?_)
  obtain ⟨rfl, rfl⟩ := hp9
  refine v_r1 ?_
  refine b_if_eq h0 d_Mo_goOn_101 rfl (fun h101 => ?_) (fun h101 => absurd h101 (by unfold kdB; rw [hx]; decide))
  refine v_iload h0 d_Mo_goOn_129 0 rfl ?_
  refine v_if_ne h0 d_Mo_goOn_131 rfl (fun h131 => ?_) (fun h131 => absurd h131 (by decide))
  refine v_iload h0 d_Mo_goOn_165 1 rfl ?_
  refine v_bipush h0 d_Mo_goOn_167 (v := nI 126) (by decide) ?_
  refine v_icmp_ne h0 d_Mo_goOn_169 rfl (fun h169 => ?_) (fun h169 => absurd h169 (fun z => absurd (hx.symm.trans ((kd_1 _).mpr z)) (by decide)))
  refine v_iload h0 d_Mo_goOn_185 1 rfl ?_
  refine v_bipush h0 d_Mo_goOn_187 (v := nI 63) (by decide) ?_
  refine v_icmp_ne h0 d_Mo_goOn_189 rfl (fun h189 => ?_) (fun h189 => absurd h189 (fun z => absurd (hx.symm.trans ((kd_3 _).mpr z)) (by decide)))
  refine v_iload h0 d_Mo_goOn_204 1 rfl ?_
  refine v_bipush h0 d_Mo_goOn_206 (v := nI 36) (by decide) ?_
  refine v_icmp_ne h0 d_Mo_goOn_208 rfl (fun h208 => ?_) (fun h208 => absurd h208 (fun z => absurd (hx.symm.trans ((kd_4 _).mpr z)) (by decide)))
  refine v_iload h0 d_Mo_goOn_223 1 rfl ?_
  refine v_bipush h0 d_Mo_goOn_225 (v := nI 33) (by decide) ?_
  refine v_icmp_ne h0 d_Mo_goOn_227 rfl (fun h227 => ?_) (fun h227 => absurd h227 (fun z => absurd (hx.symm.trans ((kd_5 _).mpr z)) (by decide)))
  refine v_iload h0 d_Mo_goOn_241 1 rfl ?_
  refine v_bipush h0 d_Mo_goOn_243 (v := nI 35) (by decide) ?_
  refine v_icmp_ne h0 d_Mo_goOn_245 rfl (fun h245 => ?_) (fun h245 => absurd h245 (fun z => absurd (hx.symm.trans ((kd_6 _).mpr z)) (by decide)))
  refine v_iload h0 d_Mo_goOn_260 1 rfl ?_
  refine v_bipush h0 d_Mo_goOn_262 (v := 38) (by decide) ?_
  refine v_icmp_ne h0 d_Mo_goOn_264 rfl (fun h264 => ?_) (fun h264 => absurd h264 (h38))
  refine v_iload h0 d_Mo_goOn_291 0 rfl ?_
  refine v_iconst h0 d_Mo_goOn_293 (v := nI 1) (by decide) ?_
  refine n_icmp_ne h0 (by omega) (by omega) d_Mo_goOn_294 rfl (fun h294 => ?_) (fun h294 => absurd h294 (by omega))
  refine v_aload_n h0 d_Mo_goOn_328 5 rfl ?_
  refine v_aload_n h0 d_Mo_goOn_329 5 rfl ?_
  refine v_iload h0 d_Mo_goOn_330 1 rfl ?_
  refine v_aload_n h0 d_Mo_goOn_332 5 rfl ?_
  refine g_Mo_first_ h0 hC wd_472 d_Mo_goOn_333 ?_
  refine v_iload_n h0 d_Mo_goOn_336 4 rfl ?_
  refine a_Mo_first_ h0 hC o (rfl) (by omega) d_Mo_goOn_337 ?_
  refine v_int (M 20 o) (up2_n _ _ (by omega)) ?_
  refine v_aload_n h0 d_Mo_goOn_338 5 rfl ?_
  refine g_Mo_out_ h0 hC wd_477 d_Mo_goOn_339 ?_
  refine v_int (M 0 29) (up2_n _ _ (by omega)) ?_
  refine v_callV h0 hC (sR_N0 g) 0 (show 0 < 22 by omega) (show enR g 0 _ = _ from rfl) rfl (av := [.int (s k), .int (M 20 o), .int (M 0 29)]) (rest := [.ref (ga g 0)]) (m_Mo_joined (kl K) g hI _ _ _ hx h38) wd_707 wd_704 wd_706 ws_62 wd_6 hd_Mo_joined (by omega) (by decide) rfl rfl (Nat.le_of_ble_eq_true rfl) d_Mo_goOn_342 (fun r9 M9 hp9 => ?_)
  obtain ⟨rfl, rfl⟩ := hp9
  refine v_r1 ?_
  refine v_callV h0 hC (sR_N0 g) 0 (show 0 < 22 by omega) (show enR g 0 _ = _ from rfl) rfl (av := [.int ((jn (s k) (M 20 o) (M 0 29) 0).2.1)]) (rest := []) (m_Mo_leave (kl K) g hI (if (jn (s k) (M 20 o) (M 0 29) 0).1 = 0 then (up2 M 19 o (nI 3)) else up2 (up2 M 19 o (nI 3)) 0 30 (nI 7)) _ (by split; rw [up2_n _ _ (by omega)]; exact ho; rw [up2_n _ _ (by omega), up2_n _ _ (by omega)]; exact ho)) wd_687 wd_684 wd_686 ws_57 wd_6 hd_Mo_leave (by omega) (by decide) rfl rfl (Nat.le_of_ble_eq_true rfl) d_Mo_goOn_345 (fun r9 M9 hp9 => ?_)
  obtain ⟨rfl, rfl⟩ := hp9
  refine v_r0 ?_
  exact v_vret h0 hC hR d_Mo_goOn_348 (⟨rfl, rfl⟩)
set_option maxHeartbeats 4000000 in
theorem m_Mo_goOn_32 (l : Launch) (g : Gd) (hI : sI (sR g)) (M : Me) {s : Nat → Int32} {c n k o : Nat} (hc : c < 10) (hT : TR M c s n) (hk : k < n) (ho : M 0 25 = nI (o + 1)) (ho3 : o < 300) (h17 : M 17 o = nI c) (h18 : M 18 o = nI k) (hx : kd (s k) = 3) (h19 : M 19 o = nI 2)  : CR l g y_Mo_goOn c_Mo_goOn 6 none 3 [.ref (ga g 0)] M (fun r M' => r = none ∧ M' = lvM (up2 M 19 o (nI 3)) (M 0 29) o) := by
  refine Ct.of hI (sR_N0 g) rfl (Nat.le_of_ble_eq_true rfl) (fun K h0 hC hR hkl hn => ?_)
  have hC : Cx (sR g) K gC_Mo _ := hC
  show V K (wp (sR g)) M 0 [(0, .ref (ga g 0))] []
  refine v_aload_n h0 d_Mo_goOn_0 0 rfl ?_
  refine g_Mo_open_ h0 hC wd_473 d_Mo_goOn_1 ?_
  have hn24 := hT.2.1
  refine v_int (nI (o + 1)) (ho) ?_
  refine v_iconst h0 d_Mo_goOn_4 (v := nI 1) (by decide) ?_
  refine v_isub h0 d_Mo_goOn_5 ?_
  refine v_int (nI o) (pred1 o) ?_
  refine v_istore_n h0 d_Mo_goOn_6 (lv' := [(1, .int (nI o)), (0, .ref (ga g 0))]) (lt_kn hn (by decide)) rfl ?_
  refine v_aload_n h0 d_Mo_goOn_7 1 rfl ?_
  refine g_Mo_cellAt_ h0 hC wd_469 d_Mo_goOn_8 ?_
  refine v_iload_n h0 d_Mo_goOn_11 0 rfl ?_
  refine a_Mo_cellAt_ h0 hC o (rfl) (by omega) d_Mo_goOn_12 ?_
  refine v_int (nI c) (h17) ?_
  refine v_istore_n h0 d_Mo_goOn_13 (lv' := [(2, .int (nI c)), (1, .int (nI o)), (0, .ref (ga g 0))]) (lt_kn hn (by decide)) rfl ?_
  refine v_aload_n h0 d_Mo_goOn_14 2 rfl ?_
  refine g_Mo_at_ h0 hC wd_470 d_Mo_goOn_15 ?_
  refine v_iload_n h0 d_Mo_goOn_18 1 rfl ?_
  refine a_Mo_at_ h0 hC o (rfl) (by omega) d_Mo_goOn_19 ?_
  refine v_int (nI k) (h18) ?_
  refine v_istore_n h0 d_Mo_goOn_20 (lv' := [(3, .int (nI k)), (2, .int (nI c)), (1, .int (nI o)), (0, .ref (ga g 0))]) (lt_kn hn (by decide)) rfl ?_
  refine v_aload_n h0 d_Mo_goOn_21 3 rfl ?_
  refine v_iload_n h0 d_Mo_goOn_22 1 rfl ?_
  refine v_iload_n h0 d_Mo_goOn_23 0 rfl ?_
  refine v_callV h0 hC (sR_N0 g) 0 (show 0 < 22 by omega) (show enR g 0 _ = _ from rfl) rfl (av := [.int (nI c), .int (nI k)]) (rest := []) (m_Mo_charAt (kl K) g hI M hc (by omega) hT) wd_564 wd_561 wd_563 ws_32 wd_6 hd_Mo_charAt (by omega) (by decide) rfl rfl (Nat.le_of_ble_eq_true rfl) d_Mo_goOn_24 (fun r9 M9 hp9 => ?_)
  obtain ⟨rfl, rfl⟩ := hp9
  refine v_r1 ?_
  refine v_int (s k) (if_pos hk) ?_
  refine v_istore h0 d_Mo_goOn_27 (lv' := [(4, .int (s k)), (3, .int (nI k)), (2, .int (nI c)), (1, .int (nI o)), (0, .ref (ga g 0))]) (lt_kn hn (by decide)) rfl ?_
  refine v_aload_n h0 d_Mo_goOn_29 4 rfl ?_
  refine g_Mo_stage_ h0 hC wd_471 d_Mo_goOn_30 ?_
  refine v_iload_n h0 d_Mo_goOn_33 3 rfl ?_
  refine a_Mo_stage_ h0 hC o (rfl) (by omega) d_Mo_goOn_34 ?_
  refine v_int (nI 2) (h19) ?_
  refine v_istore h0 d_Mo_goOn_35 (lv' := [(5, .int (nI 2)), (4, .int (s k)), (3, .int (nI k)), (2, .int (nI c)), (1, .int (nI o)), (0, .ref (ga g 0))]) (lt_kn hn (by decide)) rfl ?_
  refine v_aload_n h0 d_Mo_goOn_37 5 rfl ?_
  refine g_Mo_stage_ h0 hC wd_471 d_Mo_goOn_38 ?_
  refine v_iload_n h0 d_Mo_goOn_41 4 rfl ?_
  refine v_iload h0 d_Mo_goOn_42 0 rfl ?_
  refine v_iconst h0 d_Mo_goOn_44 (v := nI 1) (by decide) ?_
  refine v_iadd h0 d_Mo_goOn_45 ?_
  refine v_int (nI (2 + 1)) (nI_add 2 1) ?_
  refine v_int (nI 3) (rfl) ?_
  refine s_Mo_stage_ h0 hC o (rfl) (z := nI 3) (rfl) (by omega) d_Mo_goOn_46 ?_
  refine v_iload h0 d_Mo_goOn_47 1 rfl ?_
  refine v_callS h0 hC (sR_N0 g) (av := [.int (s k)]) (rest := []) (m_Mo_isDigit (kl K) g hI _ _) wd_574 wd_572 wd_573 wd_6 hd_Mo_isDigit (by omega) (by decide) rfl rfl (Nat.le_of_ble_eq_true rfl) d_Mo_goOn_49 (fun r9 M9 hp9 => ?_)
  obtain ⟨rfl, rfl⟩ := hp9
  refine v_r1 ?_
  refine b_if_eq h0 d_Mo_goOn_52 rfl (fun h52 => ?_) (fun h52 => absurd h52 (by unfold kdB; rw [hx]; decide))
  refine v_iload h0 d_Mo_goOn_67 1 rfl ?_
  refine v_callS h0 hC (sR_N0 g) (av := [.int (s k)]) (rest := []) (m_Mo_isName (kl K) g hI _ _) wd_581 wd_579 wd_580 wd_6 hd_Mo_isName (by omega) (by decide) rfl rfl (Nat.le_of_ble_eq_true rfl) d_Mo_goOn_69 (fun r9 M9 hp9 => ?_)
  obtain ⟨rfl, rfl⟩ := hp9
  refine v_r1 ?_
  refine b_if_eq h0 d_Mo_goOn_72 rfl (fun h72 => ?_) (fun h72 => absurd h72 (by unfold kdB; rw [hx]; decide))
  refine v_iload h0 d_Mo_goOn_96 1 rfl ?_
  refine v_callS h0 hC (sR_N0 g) (av := [.int (s k)]) (rest := []) (m_Mo_isLocal (kl K) g hI _ _) wd_567 wd_565 wd_566 wd_6 hd_Mo_isLocal (by omega) (by decide) rfl rfl (Nat.le_of_ble_eq_true rfl) d_Mo_goOn_98 (fun r9 M9 hp9 => ?_)
  obtain ⟨rfl, rfl⟩ := hp9
  refine v_r1 ?_
  refine b_if_eq h0 d_Mo_goOn_101 rfl (fun h101 => ?_) (fun h101 => absurd h101 (by unfold kdB; rw [hx]; decide))
  refine v_iload h0 d_Mo_goOn_129 0 rfl ?_
  refine v_if_ne h0 d_Mo_goOn_131 rfl (fun h131 => ?_) (fun h131 => absurd h131 (by decide))
  refine v_iload h0 d_Mo_goOn_165 1 rfl ?_
  refine v_bipush h0 d_Mo_goOn_167 (v := nI 126) (by decide) ?_
  refine v_icmp_ne h0 d_Mo_goOn_169 rfl (fun h169 => ?_) (fun h169 => absurd h169 (fun z => absurd (hx.symm.trans ((kd_1 _).mpr z)) (by decide)))
  refine v_iload h0 d_Mo_goOn_185 1 rfl ?_
  refine v_bipush h0 d_Mo_goOn_187 (v := nI 63) (by decide) ?_
  refine v_icmp_ne h0 d_Mo_goOn_189 rfl (fun h189 => absurd h189 (fun z => z ((kd_3 _).mp hx))) (fun h189 => ?_)
  refine v_aload_n h0 d_Mo_goOn_192 5 rfl ?_
  refine v_iload_n h0 d_Mo_goOn_193 4 rfl ?_
  refine v_iload_n h0 d_Mo_goOn_194 3 rfl ?_
  refine v_iload_n h0 d_Mo_goOn_195 2 rfl ?_
  refine v_iload h0 d_Mo_goOn_196 0 rfl ?_
  refine v_callV h0 hC (sR_N0 g) 0 (show 0 < 22 by omega) (show enR g 0 _ = _ from rfl) rfl (av := [.int (nI o), .int (nI c), .int (nI k), .int (nI 2)]) (rest := []) ((m_Mo_branch_2 (kl K) g hI _ (by rw [up2_n _ _ (by omega)]; exact ho) ho3)) wd_691 wd_688 wd_690 ws_58 wd_6 hd_Mo_branch (by omega) (by decide) rfl rfl (Nat.le_of_ble_eq_true rfl) d_Mo_goOn_198 (fun r9 M9 hp9 => ?_)
  obtain ⟨rfl, rfl⟩ := hp9
  refine v_r0 ?_
  refine v_goto h0 d_Mo_goOn_201 rfl ?_
  exact v_vret h0 hC hR d_Mo_goOn_348 (⟨rfl, by rw [up2_n M _ (by omega)]⟩)
set_option maxHeartbeats 4000000 in
theorem m_Mo_goOn_31z (l : Launch) (g : Gd) (hI : sI (sR g)) (M : Me) {s : Nat → Int32} {c n k o : Nat} (hc : c < 10) (hT : TR M c s n) (hk : k < n) (ho : M 0 25 = nI (o + 1)) (ho3 : o < 300) (h17 : M 17 o = nI c) (h18 : M 18 o = nI k) (hx : kd (s k) = 3) (h19 : M 19 o = nI 1) {fu : Nat} (hf : M 0 28 = nI fu) (hfu : fu ≤ 2000) {e1 : Nat} (r1 : M 5 (24 * c + k + 1) = nI e1) (l1 : k + 1 < 24) (l2 : e1 ≤ 24) {e2 : Nat} (l3 : e1 < 24) (r2 : M 5 (24 * c + e1) = nI e2) (hz : M 0 29 = 0) : CR l g y_Mo_goOn c_Mo_goOn 6 none 3 [.ref (ga g 0)] M (fun r M' => r = none ∧ M' = enF (up2 M 19 o (nI 2)) c e2 (o + 1) fu) := by
  refine Ct.of hI (sR_N0 g) rfl (Nat.le_of_ble_eq_true rfl) (fun K h0 hC hR hkl hn => ?_)
  have hC : Cx (sR g) K gC_Mo _ := hC
  show V K (wp (sR g)) M 0 [(0, .ref (ga g 0))] []
  refine v_aload_n h0 d_Mo_goOn_0 0 rfl ?_
  refine g_Mo_open_ h0 hC wd_473 d_Mo_goOn_1 ?_
  have hn24 := hT.2.1
  refine v_int (nI (o + 1)) (ho) ?_
  refine v_iconst h0 d_Mo_goOn_4 (v := nI 1) (by decide) ?_
  refine v_isub h0 d_Mo_goOn_5 ?_
  refine v_int (nI o) (pred1 o) ?_
  refine v_istore_n h0 d_Mo_goOn_6 (lv' := [(1, .int (nI o)), (0, .ref (ga g 0))]) (lt_kn hn (by decide)) rfl ?_
  refine v_aload_n h0 d_Mo_goOn_7 1 rfl ?_
  refine g_Mo_cellAt_ h0 hC wd_469 d_Mo_goOn_8 ?_
  refine v_iload_n h0 d_Mo_goOn_11 0 rfl ?_
  refine a_Mo_cellAt_ h0 hC o (rfl) (by omega) d_Mo_goOn_12 ?_
  refine v_int (nI c) (h17) ?_
  refine v_istore_n h0 d_Mo_goOn_13 (lv' := [(2, .int (nI c)), (1, .int (nI o)), (0, .ref (ga g 0))]) (lt_kn hn (by decide)) rfl ?_
  refine v_aload_n h0 d_Mo_goOn_14 2 rfl ?_
  refine g_Mo_at_ h0 hC wd_470 d_Mo_goOn_15 ?_
  refine v_iload_n h0 d_Mo_goOn_18 1 rfl ?_
  refine a_Mo_at_ h0 hC o (rfl) (by omega) d_Mo_goOn_19 ?_
  refine v_int (nI k) (h18) ?_
  refine v_istore_n h0 d_Mo_goOn_20 (lv' := [(3, .int (nI k)), (2, .int (nI c)), (1, .int (nI o)), (0, .ref (ga g 0))]) (lt_kn hn (by decide)) rfl ?_
  refine v_aload_n h0 d_Mo_goOn_21 3 rfl ?_
  refine v_iload_n h0 d_Mo_goOn_22 1 rfl ?_
  refine v_iload_n h0 d_Mo_goOn_23 0 rfl ?_
  refine v_callV h0 hC (sR_N0 g) 0 (show 0 < 22 by omega) (show enR g 0 _ = _ from rfl) rfl (av := [.int (nI c), .int (nI k)]) (rest := []) (m_Mo_charAt (kl K) g hI M hc (by omega) hT) wd_564 wd_561 wd_563 ws_32 wd_6 hd_Mo_charAt (by omega) (by decide) rfl rfl (Nat.le_of_ble_eq_true rfl) d_Mo_goOn_24 (fun r9 M9 hp9 => ?_)
  obtain ⟨rfl, rfl⟩ := hp9
  refine v_r1 ?_
  refine v_int (s k) (if_pos hk) ?_
  refine v_istore h0 d_Mo_goOn_27 (lv' := [(4, .int (s k)), (3, .int (nI k)), (2, .int (nI c)), (1, .int (nI o)), (0, .ref (ga g 0))]) (lt_kn hn (by decide)) rfl ?_
  refine v_aload_n h0 d_Mo_goOn_29 4 rfl ?_
  refine g_Mo_stage_ h0 hC wd_471 d_Mo_goOn_30 ?_
  refine v_iload_n h0 d_Mo_goOn_33 3 rfl ?_
  refine a_Mo_stage_ h0 hC o (rfl) (by omega) d_Mo_goOn_34 ?_
  refine v_int (nI 1) (h19) ?_
  refine v_istore h0 d_Mo_goOn_35 (lv' := [(5, .int (nI 1)), (4, .int (s k)), (3, .int (nI k)), (2, .int (nI c)), (1, .int (nI o)), (0, .ref (ga g 0))]) (lt_kn hn (by decide)) rfl ?_
  refine v_aload_n h0 d_Mo_goOn_37 5 rfl ?_
  refine g_Mo_stage_ h0 hC wd_471 d_Mo_goOn_38 ?_
  refine v_iload_n h0 d_Mo_goOn_41 4 rfl ?_
  refine v_iload h0 d_Mo_goOn_42 0 rfl ?_
  refine v_iconst h0 d_Mo_goOn_44 (v := nI 1) (by decide) ?_
  refine v_iadd h0 d_Mo_goOn_45 ?_
  refine v_int (nI (1 + 1)) (nI_add 1 1) ?_
  refine v_int (nI 2) (rfl) ?_
  refine s_Mo_stage_ h0 hC o (rfl) (z := nI 2) (rfl) (by omega) d_Mo_goOn_46 ?_
  refine v_iload h0 d_Mo_goOn_47 1 rfl ?_
  refine v_callS h0 hC (sR_N0 g) (av := [.int (s k)]) (rest := []) (m_Mo_isDigit (kl K) g hI _ _) wd_574 wd_572 wd_573 wd_6 hd_Mo_isDigit (by omega) (by decide) rfl rfl (Nat.le_of_ble_eq_true rfl) d_Mo_goOn_49 (fun r9 M9 hp9 => ?_)
  obtain ⟨rfl, rfl⟩ := hp9
  refine v_r1 ?_
  refine b_if_eq h0 d_Mo_goOn_52 rfl (fun h52 => ?_) (fun h52 => absurd h52 (by unfold kdB; rw [hx]; decide))
  refine v_iload h0 d_Mo_goOn_67 1 rfl ?_
  refine v_callS h0 hC (sR_N0 g) (av := [.int (s k)]) (rest := []) (m_Mo_isName (kl K) g hI _ _) wd_581 wd_579 wd_580 wd_6 hd_Mo_isName (by omega) (by decide) rfl rfl (Nat.le_of_ble_eq_true rfl) d_Mo_goOn_69 (fun r9 M9 hp9 => ?_)
  obtain ⟨rfl, rfl⟩ := hp9
  refine v_r1 ?_
  refine b_if_eq h0 d_Mo_goOn_72 rfl (fun h72 => ?_) (fun h72 => absurd h72 (by unfold kdB; rw [hx]; decide))
  refine v_iload h0 d_Mo_goOn_96 1 rfl ?_
  refine v_callS h0 hC (sR_N0 g) (av := [.int (s k)]) (rest := []) (m_Mo_isLocal (kl K) g hI _ _) wd_567 wd_565 wd_566 wd_6 hd_Mo_isLocal (by omega) (by decide) rfl rfl (Nat.le_of_ble_eq_true rfl) d_Mo_goOn_98 (fun r9 M9 hp9 => ?_)
  obtain ⟨rfl, rfl⟩ := hp9
  refine v_r1 ?_
  refine b_if_eq h0 d_Mo_goOn_101 rfl (fun h101 => ?_) (fun h101 => absurd h101 (by unfold kdB; rw [hx]; decide))
  refine v_iload h0 d_Mo_goOn_129 0 rfl ?_
  refine v_if_ne h0 d_Mo_goOn_131 rfl (fun h131 => ?_) (fun h131 => absurd h131 (by decide))
  refine v_iload h0 d_Mo_goOn_165 1 rfl ?_
  refine v_bipush h0 d_Mo_goOn_167 (v := nI 126) (by decide) ?_
  refine v_icmp_ne h0 d_Mo_goOn_169 rfl (fun h169 => ?_) (fun h169 => absurd h169 (fun z => absurd (hx.symm.trans ((kd_1 _).mpr z)) (by decide)))
  refine v_iload h0 d_Mo_goOn_185 1 rfl ?_
  refine v_bipush h0 d_Mo_goOn_187 (v := nI 63) (by decide) ?_
  refine v_icmp_ne h0 d_Mo_goOn_189 rfl (fun h189 => absurd h189 (fun z => z ((kd_3 _).mp hx))) (fun h189 => ?_)
  refine v_aload_n h0 d_Mo_goOn_192 5 rfl ?_
  refine v_iload_n h0 d_Mo_goOn_193 4 rfl ?_
  refine v_iload_n h0 d_Mo_goOn_194 3 rfl ?_
  refine v_iload_n h0 d_Mo_goOn_195 2 rfl ?_
  refine v_iload h0 d_Mo_goOn_196 0 rfl ?_
  refine v_callV h0 hC (sR_N0 g) 0 (show 0 < 22 by omega) (show enR g 0 _ = _ from rfl) rfl (av := [.int (nI o), .int (nI c), .int (nI k), .int (nI 1)]) (rest := []) (m_Mo_branch_1z (kl K) g hI _ hc (by rw [up2_n _ _ (by omega)]; exact ho) ho3 (by rw [up2_n _ _ (by omega)]; exact hf) hfu (by rw [up2_n _ _ (by omega)]; exact r1) l1 l2 l3 (by rw [up2_n _ _ (by omega)]; exact r2) (by rw [up2_n _ _ (by omega)]; exact hz)) wd_691 wd_688 wd_690 ws_58 wd_6 hd_Mo_branch (by omega) (by decide) rfl rfl (Nat.le_of_ble_eq_true rfl) d_Mo_goOn_198 (fun r9 M9 hp9 => ?_)
  obtain ⟨rfl, rfl⟩ := hp9
  refine v_r0 ?_
  refine v_goto h0 d_Mo_goOn_201 rfl ?_
  exact v_vret h0 hC hR d_Mo_goOn_348 (⟨rfl, rfl⟩)
set_option maxHeartbeats 4000000 in
theorem m_Mo_goOn_31n (l : Launch) (g : Gd) (hI : sI (sR g)) (M : Me) {s : Nat → Int32} {c n k o : Nat} (hc : c < 10) (hT : TR M c s n) (hk : k < n) (ho : M 0 25 = nI (o + 1)) (ho3 : o < 300) (h17 : M 17 o = nI c) (h18 : M 18 o = nI k) (hx : kd (s k) = 3) (h19 : M 19 o = nI 1) {fu : Nat} (hf : M 0 28 = nI fu) (hfu : fu ≤ 2000) {e1 : Nat} (r1 : M 5 (24 * c + k + 1) = nI e1) (l1 : k + 1 < 24) (l2 : e1 ≤ 24) {e2 : Nat} (l3 : e1 < 24) (r2 : M 5 (24 * c + e1) = nI e2) (hz : ¬ M 0 29 = 0) : CR l g y_Mo_goOn c_Mo_goOn 6 none 3 [.ref (ga g 0)] M (fun r M' => r = none ∧ M' = enF (up2 M 19 o (nI 2)) c e1 (o + 1) fu) := by
  refine Ct.of hI (sR_N0 g) rfl (Nat.le_of_ble_eq_true rfl) (fun K h0 hC hR hkl hn => ?_)
  have hC : Cx (sR g) K gC_Mo _ := hC
  show V K (wp (sR g)) M 0 [(0, .ref (ga g 0))] []
  refine v_aload_n h0 d_Mo_goOn_0 0 rfl ?_
  refine g_Mo_open_ h0 hC wd_473 d_Mo_goOn_1 ?_
  have hn24 := hT.2.1
  refine v_int (nI (o + 1)) (ho) ?_
  refine v_iconst h0 d_Mo_goOn_4 (v := nI 1) (by decide) ?_
  refine v_isub h0 d_Mo_goOn_5 ?_
  refine v_int (nI o) (pred1 o) ?_
  refine v_istore_n h0 d_Mo_goOn_6 (lv' := [(1, .int (nI o)), (0, .ref (ga g 0))]) (lt_kn hn (by decide)) rfl ?_
  refine v_aload_n h0 d_Mo_goOn_7 1 rfl ?_
  refine g_Mo_cellAt_ h0 hC wd_469 d_Mo_goOn_8 ?_
  refine v_iload_n h0 d_Mo_goOn_11 0 rfl ?_
  refine a_Mo_cellAt_ h0 hC o (rfl) (by omega) d_Mo_goOn_12 ?_
  refine v_int (nI c) (h17) ?_
  refine v_istore_n h0 d_Mo_goOn_13 (lv' := [(2, .int (nI c)), (1, .int (nI o)), (0, .ref (ga g 0))]) (lt_kn hn (by decide)) rfl ?_
  refine v_aload_n h0 d_Mo_goOn_14 2 rfl ?_
  refine g_Mo_at_ h0 hC wd_470 d_Mo_goOn_15 ?_
  refine v_iload_n h0 d_Mo_goOn_18 1 rfl ?_
  refine a_Mo_at_ h0 hC o (rfl) (by omega) d_Mo_goOn_19 ?_
  refine v_int (nI k) (h18) ?_
  refine v_istore_n h0 d_Mo_goOn_20 (lv' := [(3, .int (nI k)), (2, .int (nI c)), (1, .int (nI o)), (0, .ref (ga g 0))]) (lt_kn hn (by decide)) rfl ?_
  refine v_aload_n h0 d_Mo_goOn_21 3 rfl ?_
  refine v_iload_n h0 d_Mo_goOn_22 1 rfl ?_
  refine v_iload_n h0 d_Mo_goOn_23 0 rfl ?_
  refine v_callV h0 hC (sR_N0 g) 0 (show 0 < 22 by omega) (show enR g 0 _ = _ from rfl) rfl (av := [.int (nI c), .int (nI k)]) (rest := []) (m_Mo_charAt (kl K) g hI M hc (by omega) hT) wd_564 wd_561 wd_563 ws_32 wd_6 hd_Mo_charAt (by omega) (by decide) rfl rfl (Nat.le_of_ble_eq_true rfl) d_Mo_goOn_24 (fun r9 M9 hp9 => ?_)
  obtain ⟨rfl, rfl⟩ := hp9
  refine v_r1 ?_
  refine v_int (s k) (if_pos hk) ?_
  refine v_istore h0 d_Mo_goOn_27 (lv' := [(4, .int (s k)), (3, .int (nI k)), (2, .int (nI c)), (1, .int (nI o)), (0, .ref (ga g 0))]) (lt_kn hn (by decide)) rfl ?_
  refine v_aload_n h0 d_Mo_goOn_29 4 rfl ?_
  refine g_Mo_stage_ h0 hC wd_471 d_Mo_goOn_30 ?_
  refine v_iload_n h0 d_Mo_goOn_33 3 rfl ?_
  refine a_Mo_stage_ h0 hC o (rfl) (by omega) d_Mo_goOn_34 ?_
  refine v_int (nI 1) (h19) ?_
  refine v_istore h0 d_Mo_goOn_35 (lv' := [(5, .int (nI 1)), (4, .int (s k)), (3, .int (nI k)), (2, .int (nI c)), (1, .int (nI o)), (0, .ref (ga g 0))]) (lt_kn hn (by decide)) rfl ?_
  refine v_aload_n h0 d_Mo_goOn_37 5 rfl ?_
  refine g_Mo_stage_ h0 hC wd_471 d_Mo_goOn_38 ?_
  refine v_iload_n h0 d_Mo_goOn_41 4 rfl ?_
  refine v_iload h0 d_Mo_goOn_42 0 rfl ?_
  refine v_iconst h0 d_Mo_goOn_44 (v := nI 1) (by decide) ?_
  refine v_iadd h0 d_Mo_goOn_45 ?_
  refine v_int (nI (1 + 1)) (nI_add 1 1) ?_
  refine v_int (nI 2) (rfl) ?_
  refine s_Mo_stage_ h0 hC o (rfl) (z := nI 2) (rfl) (by omega) d_Mo_goOn_46 ?_
  refine v_iload h0 d_Mo_goOn_47 1 rfl ?_
  refine v_callS h0 hC (sR_N0 g) (av := [.int (s k)]) (rest := []) (m_Mo_isDigit (kl K) g hI _ _) wd_574 wd_572 wd_573 wd_6 hd_Mo_isDigit (by omega) (by decide) rfl rfl (Nat.le_of_ble_eq_true rfl) d_Mo_goOn_49 (fun r9 M9 hp9 => ?_)
  obtain ⟨rfl, rfl⟩ := hp9
  refine v_r1 ?_
  refine b_if_eq h0 d_Mo_goOn_52 rfl (fun h52 => ?_) (fun h52 => absurd h52 (by unfold kdB; rw [hx]; decide))
  refine v_iload h0 d_Mo_goOn_67 1 rfl ?_
  refine v_callS h0 hC (sR_N0 g) (av := [.int (s k)]) (rest := []) (m_Mo_isName (kl K) g hI _ _) wd_581 wd_579 wd_580 wd_6 hd_Mo_isName (by omega) (by decide) rfl rfl (Nat.le_of_ble_eq_true rfl) d_Mo_goOn_69 (fun r9 M9 hp9 => ?_)
  obtain ⟨rfl, rfl⟩ := hp9
  refine v_r1 ?_
  refine b_if_eq h0 d_Mo_goOn_72 rfl (fun h72 => ?_) (fun h72 => absurd h72 (by unfold kdB; rw [hx]; decide))
  refine v_iload h0 d_Mo_goOn_96 1 rfl ?_
  refine v_callS h0 hC (sR_N0 g) (av := [.int (s k)]) (rest := []) (m_Mo_isLocal (kl K) g hI _ _) wd_567 wd_565 wd_566 wd_6 hd_Mo_isLocal (by omega) (by decide) rfl rfl (Nat.le_of_ble_eq_true rfl) d_Mo_goOn_98 (fun r9 M9 hp9 => ?_)
  obtain ⟨rfl, rfl⟩ := hp9
  refine v_r1 ?_
  refine b_if_eq h0 d_Mo_goOn_101 rfl (fun h101 => ?_) (fun h101 => absurd h101 (by unfold kdB; rw [hx]; decide))
  refine v_iload h0 d_Mo_goOn_129 0 rfl ?_
  refine v_if_ne h0 d_Mo_goOn_131 rfl (fun h131 => ?_) (fun h131 => absurd h131 (by decide))
  refine v_iload h0 d_Mo_goOn_165 1 rfl ?_
  refine v_bipush h0 d_Mo_goOn_167 (v := nI 126) (by decide) ?_
  refine v_icmp_ne h0 d_Mo_goOn_169 rfl (fun h169 => ?_) (fun h169 => absurd h169 (fun z => absurd (hx.symm.trans ((kd_1 _).mpr z)) (by decide)))
  refine v_iload h0 d_Mo_goOn_185 1 rfl ?_
  refine v_bipush h0 d_Mo_goOn_187 (v := nI 63) (by decide) ?_
  refine v_icmp_ne h0 d_Mo_goOn_189 rfl (fun h189 => absurd h189 (fun z => z ((kd_3 _).mp hx))) (fun h189 => ?_)
  refine v_aload_n h0 d_Mo_goOn_192 5 rfl ?_
  refine v_iload_n h0 d_Mo_goOn_193 4 rfl ?_
  refine v_iload_n h0 d_Mo_goOn_194 3 rfl ?_
  refine v_iload_n h0 d_Mo_goOn_195 2 rfl ?_
  refine v_iload h0 d_Mo_goOn_196 0 rfl ?_
  refine v_callV h0 hC (sR_N0 g) 0 (show 0 < 22 by omega) (show enR g 0 _ = _ from rfl) rfl (av := [.int (nI o), .int (nI c), .int (nI k), .int (nI 1)]) (rest := []) (m_Mo_branch_1n (kl K) g hI _ hc (by rw [up2_n _ _ (by omega)]; exact ho) ho3 (by rw [up2_n _ _ (by omega)]; exact hf) hfu (by rw [up2_n _ _ (by omega)]; exact r1) l1 l2 l3 (by rw [up2_n _ _ (by omega)]; exact r2) (by rw [up2_n _ _ (by omega)]; exact hz)) wd_691 wd_688 wd_690 ws_58 wd_6 hd_Mo_branch (by omega) (by decide) rfl rfl (Nat.le_of_ble_eq_true rfl) d_Mo_goOn_198 (fun r9 M9 hp9 => ?_)
  obtain ⟨rfl, rfl⟩ := hp9
  refine v_r0 ?_
  refine v_goto h0 d_Mo_goOn_201 rfl ?_
  exact v_vret h0 hC hR d_Mo_goOn_348 (⟨rfl, rfl⟩)
set_option maxHeartbeats 4000000 in
theorem m_Mo_goOn_42 (l : Launch) (g : Gd) (hI : sI (sR g)) (M : Me) {s : Nat → Int32} {c n k o : Nat} (hc : c < 10) (hT : TR M c s n) (hk : k < n) (ho : M 0 25 = nI (o + 1)) (ho3 : o < 300) (h17 : M 17 o = nI c) (h18 : M 18 o = nI k) (hx : kd (s k) = 4) (h19 : M 19 o = nI 2) (hk1 : k + 1 < n) (hy : kd (s (k + 1)) = 9) {dp : Nat} (hd : M 0 27 = nI dp) (hdp : dp ≤ 5) : CR l g y_Mo_goOn c_Mo_goOn 6 none 3 [.ref (ga g 0)] M (fun r M' => r = none ∧ M' = lvM (up2 (up2 M 19 o (nI 3)) 21 (6 * dp + lcI (s (k + 1))) (M 20 o)) (M 0 29) o) := by
  refine Ct.of hI (sR_N0 g) rfl (Nat.le_of_ble_eq_true rfl) (fun K h0 hC hR hkl hn => ?_)
  have hC : Cx (sR g) K gC_Mo _ := hC
  show V K (wp (sR g)) M 0 [(0, .ref (ga g 0))] []
  refine v_aload_n h0 d_Mo_goOn_0 0 rfl ?_
  refine g_Mo_open_ h0 hC wd_473 d_Mo_goOn_1 ?_
  have hn24 := hT.2.1
  refine v_int (nI (o + 1)) (ho) ?_
  refine v_iconst h0 d_Mo_goOn_4 (v := nI 1) (by decide) ?_
  refine v_isub h0 d_Mo_goOn_5 ?_
  refine v_int (nI o) (pred1 o) ?_
  refine v_istore_n h0 d_Mo_goOn_6 (lv' := [(1, .int (nI o)), (0, .ref (ga g 0))]) (lt_kn hn (by decide)) rfl ?_
  refine v_aload_n h0 d_Mo_goOn_7 1 rfl ?_
  refine g_Mo_cellAt_ h0 hC wd_469 d_Mo_goOn_8 ?_
  refine v_iload_n h0 d_Mo_goOn_11 0 rfl ?_
  refine a_Mo_cellAt_ h0 hC o (rfl) (by omega) d_Mo_goOn_12 ?_
  refine v_int (nI c) (h17) ?_
  refine v_istore_n h0 d_Mo_goOn_13 (lv' := [(2, .int (nI c)), (1, .int (nI o)), (0, .ref (ga g 0))]) (lt_kn hn (by decide)) rfl ?_
  refine v_aload_n h0 d_Mo_goOn_14 2 rfl ?_
  refine g_Mo_at_ h0 hC wd_470 d_Mo_goOn_15 ?_
  refine v_iload_n h0 d_Mo_goOn_18 1 rfl ?_
  refine a_Mo_at_ h0 hC o (rfl) (by omega) d_Mo_goOn_19 ?_
  refine v_int (nI k) (h18) ?_
  refine v_istore_n h0 d_Mo_goOn_20 (lv' := [(3, .int (nI k)), (2, .int (nI c)), (1, .int (nI o)), (0, .ref (ga g 0))]) (lt_kn hn (by decide)) rfl ?_
  refine v_aload_n h0 d_Mo_goOn_21 3 rfl ?_
  refine v_iload_n h0 d_Mo_goOn_22 1 rfl ?_
  refine v_iload_n h0 d_Mo_goOn_23 0 rfl ?_
  refine v_callV h0 hC (sR_N0 g) 0 (show 0 < 22 by omega) (show enR g 0 _ = _ from rfl) rfl (av := [.int (nI c), .int (nI k)]) (rest := []) (m_Mo_charAt (kl K) g hI M hc (by omega) hT) wd_564 wd_561 wd_563 ws_32 wd_6 hd_Mo_charAt (by omega) (by decide) rfl rfl (Nat.le_of_ble_eq_true rfl) d_Mo_goOn_24 (fun r9 M9 hp9 => ?_)
  obtain ⟨rfl, rfl⟩ := hp9
  refine v_r1 ?_
  refine v_int (s k) (if_pos hk) ?_
  refine v_istore h0 d_Mo_goOn_27 (lv' := [(4, .int (s k)), (3, .int (nI k)), (2, .int (nI c)), (1, .int (nI o)), (0, .ref (ga g 0))]) (lt_kn hn (by decide)) rfl ?_
  refine v_aload_n h0 d_Mo_goOn_29 4 rfl ?_
  refine g_Mo_stage_ h0 hC wd_471 d_Mo_goOn_30 ?_
  refine v_iload_n h0 d_Mo_goOn_33 3 rfl ?_
  refine a_Mo_stage_ h0 hC o (rfl) (by omega) d_Mo_goOn_34 ?_
  refine v_int (nI 2) (h19) ?_
  refine v_istore h0 d_Mo_goOn_35 (lv' := [(5, .int (nI 2)), (4, .int (s k)), (3, .int (nI k)), (2, .int (nI c)), (1, .int (nI o)), (0, .ref (ga g 0))]) (lt_kn hn (by decide)) rfl ?_
  refine v_aload_n h0 d_Mo_goOn_37 5 rfl ?_
  refine g_Mo_stage_ h0 hC wd_471 d_Mo_goOn_38 ?_
  refine v_iload_n h0 d_Mo_goOn_41 4 rfl ?_
  refine v_iload h0 d_Mo_goOn_42 0 rfl ?_
  refine v_iconst h0 d_Mo_goOn_44 (v := nI 1) (by decide) ?_
  refine v_iadd h0 d_Mo_goOn_45 ?_
  refine v_int (nI (2 + 1)) (nI_add 2 1) ?_
  refine v_int (nI 3) (rfl) ?_
  refine s_Mo_stage_ h0 hC o (rfl) (z := nI 3) (rfl) (by omega) d_Mo_goOn_46 ?_
  refine v_iload h0 d_Mo_goOn_47 1 rfl ?_
  refine v_callS h0 hC (sR_N0 g) (av := [.int (s k)]) (rest := []) (m_Mo_isDigit (kl K) g hI _ _) wd_574 wd_572 wd_573 wd_6 hd_Mo_isDigit (by omega) (by decide) rfl rfl (Nat.le_of_ble_eq_true rfl) d_Mo_goOn_49 (fun r9 M9 hp9 => ?_)
  obtain ⟨rfl, rfl⟩ := hp9
  refine v_r1 ?_
  refine b_if_eq h0 d_Mo_goOn_52 rfl (fun h52 => ?_) (fun h52 => absurd h52 (by unfold kdB; rw [hx]; decide))
  refine v_iload h0 d_Mo_goOn_67 1 rfl ?_
  refine v_callS h0 hC (sR_N0 g) (av := [.int (s k)]) (rest := []) (m_Mo_isName (kl K) g hI _ _) wd_581 wd_579 wd_580 wd_6 hd_Mo_isName (by omega) (by decide) rfl rfl (Nat.le_of_ble_eq_true rfl) d_Mo_goOn_69 (fun r9 M9 hp9 => ?_)
  obtain ⟨rfl, rfl⟩ := hp9
  refine v_r1 ?_
  refine b_if_eq h0 d_Mo_goOn_72 rfl (fun h72 => ?_) (fun h72 => absurd h72 (by unfold kdB; rw [hx]; decide))
  refine v_iload h0 d_Mo_goOn_96 1 rfl ?_
  refine v_callS h0 hC (sR_N0 g) (av := [.int (s k)]) (rest := []) (m_Mo_isLocal (kl K) g hI _ _) wd_567 wd_565 wd_566 wd_6 hd_Mo_isLocal (by omega) (by decide) rfl rfl (Nat.le_of_ble_eq_true rfl) d_Mo_goOn_98 (fun r9 M9 hp9 => ?_)
  obtain ⟨rfl, rfl⟩ := hp9
  refine v_r1 ?_
  refine b_if_eq h0 d_Mo_goOn_101 rfl (fun h101 => ?_) (fun h101 => absurd h101 (by unfold kdB; rw [hx]; decide))
  refine v_iload h0 d_Mo_goOn_129 0 rfl ?_
  refine v_if_ne h0 d_Mo_goOn_131 rfl (fun h131 => ?_) (fun h131 => absurd h131 (by decide))
  refine v_iload h0 d_Mo_goOn_165 1 rfl ?_
  refine v_bipush h0 d_Mo_goOn_167 (v := nI 126) (by decide) ?_
  refine v_icmp_ne h0 d_Mo_goOn_169 rfl (fun h169 => ?_) (fun h169 => absurd h169 (fun z => absurd (hx.symm.trans ((kd_1 _).mpr z)) (by decide)))
  refine v_iload h0 d_Mo_goOn_185 1 rfl ?_
  refine v_bipush h0 d_Mo_goOn_187 (v := nI 63) (by decide) ?_
  refine v_icmp_ne h0 d_Mo_goOn_189 rfl (fun h189 => ?_) (fun h189 => absurd h189 (fun z => absurd (hx.symm.trans ((kd_3 _).mpr z)) (by decide)))
  refine v_iload h0 d_Mo_goOn_204 1 rfl ?_
  refine v_bipush h0 d_Mo_goOn_206 (v := nI 36) (by decide) ?_
  refine v_icmp_ne h0 d_Mo_goOn_208 rfl (fun h208 => absurd h208 (fun z => z ((kd_4 _).mp hx))) (fun h208 => ?_)
  refine v_aload_n h0 d_Mo_goOn_211 5 rfl ?_
  refine v_iload_n h0 d_Mo_goOn_212 4 rfl ?_
  refine v_iload_n h0 d_Mo_goOn_213 3 rfl ?_
  refine v_iload_n h0 d_Mo_goOn_214 2 rfl ?_
  refine v_iload h0 d_Mo_goOn_215 0 rfl ?_
  refine v_callV h0 hC (sR_N0 g) 0 (show 0 < 22 by omega) (show enR g 0 _ = _ from rfl) rfl (av := [.int (nI o), .int (nI c), .int (nI k), .int (nI 2)]) (rest := []) (m_Mo_let_2 (kl K) g hI _ hc (show TR (up2 M 19 o (nI 3)) c s n from ⟨by rw [up2_n _ _ (by omega)]; exact hT.1, hT.2.1, fun j hj => by rw [up2_n _ _ (by omega)]; exact hT.2.2.1 j hj, hT.2.2.2⟩) hk1 hy (by rw [up2_n _ _ (by omega)]; exact hd) hdp ho3 (by rw [up2_n _ _ (by omega)]; exact ho) ho3) wd_695 wd_692 wd_694 ws_59 wd_6 hd_Mo_let (by omega) (by decide) rfl rfl (Nat.le_of_ble_eq_true rfl) d_Mo_goOn_217 (fun r9 M9 hp9 => ?_)
  obtain ⟨rfl, rfl⟩ := hp9
  refine v_r0 ?_
  refine v_goto h0 d_Mo_goOn_220 rfl ?_
  exact v_vret h0 hC hR d_Mo_goOn_348 (⟨rfl, by rw [up2_n M (i := 19) _ (by omega), up2_n M (i := 19) _ (by omega)]⟩)
set_option maxHeartbeats 4000000 in
theorem m_Mo_goOn_41 (l : Launch) (g : Gd) (hI : sI (sR g)) (M : Me) {s : Nat → Int32} {c n k o : Nat} (hc : c < 10) (hT : TR M c s n) (hk : k < n) (ho : M 0 25 = nI (o + 1)) (ho3 : o < 300) (h17 : M 17 o = nI c) (h18 : M 18 o = nI k) (hx : kd (s k) = 4) (h19 : M 19 o = nI 1) (hk1 : k + 1 < n) (hy : kd (s (k + 1)) = 9) {dp : Nat} (hd : M 0 27 = nI dp) (hdp : dp ≤ 5) {fu : Nat} (hf : M 0 28 = nI fu) (hfu : fu ≤ 2000) {e1 : Nat} (r1 : M 5 (24 * c + k + 2) = nI e1) (l1 : k + 2 < 24) : CR l g y_Mo_goOn c_Mo_goOn 6 none 3 [.ref (ga g 0)] M (fun r M' => r = none ∧ M' = enF (up2 (up2 (up2 M 19 o (nI 2)) 20 o (M 21 (6 * dp + lcI (s (k + 1))))) 21 (6 * dp + lcI (s (k + 1))) (M 0 29)) c e1 (o + 1) fu) := by
  refine Ct.of hI (sR_N0 g) rfl (Nat.le_of_ble_eq_true rfl) (fun K h0 hC hR hkl hn => ?_)
  have hC : Cx (sR g) K gC_Mo _ := hC
  show V K (wp (sR g)) M 0 [(0, .ref (ga g 0))] []
  refine v_aload_n h0 d_Mo_goOn_0 0 rfl ?_
  refine g_Mo_open_ h0 hC wd_473 d_Mo_goOn_1 ?_
  have hn24 := hT.2.1
  refine v_int (nI (o + 1)) (ho) ?_
  refine v_iconst h0 d_Mo_goOn_4 (v := nI 1) (by decide) ?_
  refine v_isub h0 d_Mo_goOn_5 ?_
  refine v_int (nI o) (pred1 o) ?_
  refine v_istore_n h0 d_Mo_goOn_6 (lv' := [(1, .int (nI o)), (0, .ref (ga g 0))]) (lt_kn hn (by decide)) rfl ?_
  refine v_aload_n h0 d_Mo_goOn_7 1 rfl ?_
  refine g_Mo_cellAt_ h0 hC wd_469 d_Mo_goOn_8 ?_
  refine v_iload_n h0 d_Mo_goOn_11 0 rfl ?_
  refine a_Mo_cellAt_ h0 hC o (rfl) (by omega) d_Mo_goOn_12 ?_
  refine v_int (nI c) (h17) ?_
  refine v_istore_n h0 d_Mo_goOn_13 (lv' := [(2, .int (nI c)), (1, .int (nI o)), (0, .ref (ga g 0))]) (lt_kn hn (by decide)) rfl ?_
  refine v_aload_n h0 d_Mo_goOn_14 2 rfl ?_
  refine g_Mo_at_ h0 hC wd_470 d_Mo_goOn_15 ?_
  refine v_iload_n h0 d_Mo_goOn_18 1 rfl ?_
  refine a_Mo_at_ h0 hC o (rfl) (by omega) d_Mo_goOn_19 ?_
  refine v_int (nI k) (h18) ?_
  refine v_istore_n h0 d_Mo_goOn_20 (lv' := [(3, .int (nI k)), (2, .int (nI c)), (1, .int (nI o)), (0, .ref (ga g 0))]) (lt_kn hn (by decide)) rfl ?_
  refine v_aload_n h0 d_Mo_goOn_21 3 rfl ?_
  refine v_iload_n h0 d_Mo_goOn_22 1 rfl ?_
  refine v_iload_n h0 d_Mo_goOn_23 0 rfl ?_
  refine v_callV h0 hC (sR_N0 g) 0 (show 0 < 22 by omega) (show enR g 0 _ = _ from rfl) rfl (av := [.int (nI c), .int (nI k)]) (rest := []) (m_Mo_charAt (kl K) g hI M hc (by omega) hT) wd_564 wd_561 wd_563 ws_32 wd_6 hd_Mo_charAt (by omega) (by decide) rfl rfl (Nat.le_of_ble_eq_true rfl) d_Mo_goOn_24 (fun r9 M9 hp9 => ?_)
  obtain ⟨rfl, rfl⟩ := hp9
  refine v_r1 ?_
  refine v_int (s k) (if_pos hk) ?_
  refine v_istore h0 d_Mo_goOn_27 (lv' := [(4, .int (s k)), (3, .int (nI k)), (2, .int (nI c)), (1, .int (nI o)), (0, .ref (ga g 0))]) (lt_kn hn (by decide)) rfl ?_
  refine v_aload_n h0 d_Mo_goOn_29 4 rfl ?_
  refine g_Mo_stage_ h0 hC wd_471 d_Mo_goOn_30 ?_
  refine v_iload_n h0 d_Mo_goOn_33 3 rfl ?_
  refine a_Mo_stage_ h0 hC o (rfl) (by omega) d_Mo_goOn_34 ?_
  refine v_int (nI 1) (h19) ?_
  refine v_istore h0 d_Mo_goOn_35 (lv' := [(5, .int (nI 1)), (4, .int (s k)), (3, .int (nI k)), (2, .int (nI c)), (1, .int (nI o)), (0, .ref (ga g 0))]) (lt_kn hn (by decide)) rfl ?_
  refine v_aload_n h0 d_Mo_goOn_37 5 rfl ?_
  refine g_Mo_stage_ h0 hC wd_471 d_Mo_goOn_38 ?_
  refine v_iload_n h0 d_Mo_goOn_41 4 rfl ?_
  refine v_iload h0 d_Mo_goOn_42 0 rfl ?_
  refine v_iconst h0 d_Mo_goOn_44 (v := nI 1) (by decide) ?_
  refine v_iadd h0 d_Mo_goOn_45 ?_
  refine v_int (nI (1 + 1)) (nI_add 1 1) ?_
  refine v_int (nI 2) (rfl) ?_
  refine s_Mo_stage_ h0 hC o (rfl) (z := nI 2) (rfl) (by omega) d_Mo_goOn_46 ?_
  refine v_iload h0 d_Mo_goOn_47 1 rfl ?_
  refine v_callS h0 hC (sR_N0 g) (av := [.int (s k)]) (rest := []) (m_Mo_isDigit (kl K) g hI _ _) wd_574 wd_572 wd_573 wd_6 hd_Mo_isDigit (by omega) (by decide) rfl rfl (Nat.le_of_ble_eq_true rfl) d_Mo_goOn_49 (fun r9 M9 hp9 => ?_)
  obtain ⟨rfl, rfl⟩ := hp9
  refine v_r1 ?_
  refine b_if_eq h0 d_Mo_goOn_52 rfl (fun h52 => ?_) (fun h52 => absurd h52 (by unfold kdB; rw [hx]; decide))
  refine v_iload h0 d_Mo_goOn_67 1 rfl ?_
  refine v_callS h0 hC (sR_N0 g) (av := [.int (s k)]) (rest := []) (m_Mo_isName (kl K) g hI _ _) wd_581 wd_579 wd_580 wd_6 hd_Mo_isName (by omega) (by decide) rfl rfl (Nat.le_of_ble_eq_true rfl) d_Mo_goOn_69 (fun r9 M9 hp9 => ?_)
  obtain ⟨rfl, rfl⟩ := hp9
  refine v_r1 ?_
  refine b_if_eq h0 d_Mo_goOn_72 rfl (fun h72 => ?_) (fun h72 => absurd h72 (by unfold kdB; rw [hx]; decide))
  refine v_iload h0 d_Mo_goOn_96 1 rfl ?_
  refine v_callS h0 hC (sR_N0 g) (av := [.int (s k)]) (rest := []) (m_Mo_isLocal (kl K) g hI _ _) wd_567 wd_565 wd_566 wd_6 hd_Mo_isLocal (by omega) (by decide) rfl rfl (Nat.le_of_ble_eq_true rfl) d_Mo_goOn_98 (fun r9 M9 hp9 => ?_)
  obtain ⟨rfl, rfl⟩ := hp9
  refine v_r1 ?_
  refine b_if_eq h0 d_Mo_goOn_101 rfl (fun h101 => ?_) (fun h101 => absurd h101 (by unfold kdB; rw [hx]; decide))
  refine v_iload h0 d_Mo_goOn_129 0 rfl ?_
  refine v_if_ne h0 d_Mo_goOn_131 rfl (fun h131 => ?_) (fun h131 => absurd h131 (by decide))
  refine v_iload h0 d_Mo_goOn_165 1 rfl ?_
  refine v_bipush h0 d_Mo_goOn_167 (v := nI 126) (by decide) ?_
  refine v_icmp_ne h0 d_Mo_goOn_169 rfl (fun h169 => ?_) (fun h169 => absurd h169 (fun z => absurd (hx.symm.trans ((kd_1 _).mpr z)) (by decide)))
  refine v_iload h0 d_Mo_goOn_185 1 rfl ?_
  refine v_bipush h0 d_Mo_goOn_187 (v := nI 63) (by decide) ?_
  refine v_icmp_ne h0 d_Mo_goOn_189 rfl (fun h189 => ?_) (fun h189 => absurd h189 (fun z => absurd (hx.symm.trans ((kd_3 _).mpr z)) (by decide)))
  refine v_iload h0 d_Mo_goOn_204 1 rfl ?_
  refine v_bipush h0 d_Mo_goOn_206 (v := nI 36) (by decide) ?_
  refine v_icmp_ne h0 d_Mo_goOn_208 rfl (fun h208 => absurd h208 (fun z => z ((kd_4 _).mp hx))) (fun h208 => ?_)
  refine v_aload_n h0 d_Mo_goOn_211 5 rfl ?_
  refine v_iload_n h0 d_Mo_goOn_212 4 rfl ?_
  refine v_iload_n h0 d_Mo_goOn_213 3 rfl ?_
  refine v_iload_n h0 d_Mo_goOn_214 2 rfl ?_
  refine v_iload h0 d_Mo_goOn_215 0 rfl ?_
  refine v_callV h0 hC (sR_N0 g) 0 (show 0 < 22 by omega) (show enR g 0 _ = _ from rfl) rfl (av := [.int (nI o), .int (nI c), .int (nI k), .int (nI 1)]) (rest := []) (m_Mo_let_1 (kl K) g hI _ hc (show TR (up2 M 19 o (nI 2)) c s n from ⟨by rw [up2_n _ _ (by omega)]; exact hT.1, hT.2.1, fun j hj => by rw [up2_n _ _ (by omega)]; exact hT.2.2.1 j hj, hT.2.2.2⟩) hk1 hy (by rw [up2_n _ _ (by omega)]; exact hd) hdp ho3 (by rw [up2_n _ _ (by omega)]; exact ho) ho3 (by rw [up2_n _ _ (by omega)]; exact hf) hfu (by rw [up2_n _ _ (by omega)]; exact r1) l1) wd_695 wd_692 wd_694 ws_59 wd_6 hd_Mo_let (by omega) (by decide) rfl rfl (Nat.le_of_ble_eq_true rfl) d_Mo_goOn_217 (fun r9 M9 hp9 => ?_)
  obtain ⟨rfl, rfl⟩ := hp9
  refine v_r0 ?_
  refine v_goto h0 d_Mo_goOn_220 rfl ?_
  exact v_vret h0 hC hR d_Mo_goOn_348 (⟨rfl, by rw [up2_n M (i := 19) _ (by omega), up2_n M (i := 19) _ (by omega)]⟩)
set_option maxHeartbeats 4000000 in
theorem m_Mo_goOn_52 (l : Launch) (g : Gd) (hI : sI (sR g)) (M : Me) {s : Nat → Int32} {c n k o : Nat} (hc : c < 10) (hT : TR M c s n) (hk : k < n) (ho : M 0 25 = nI (o + 1)) (ho3 : o < 300) (h17 : M 17 o = nI c) (h18 : M 18 o = nI k) (hx : kd (s k) = 5) (h19 : M 19 o = nI 2) {dp : Nat} (hd : M 0 27 = nI (dp + 1)) : CR l g y_Mo_goOn c_Mo_goOn 6 none 3 [.ref (ga g 0)] M (fun r M' => r = none ∧ M' = lvM (up2 (up2 M 19 o (nI 3)) 0 27 (nI dp)) (M 0 29) o) := by
  refine Ct.of hI (sR_N0 g) rfl (Nat.le_of_ble_eq_true rfl) (fun K h0 hC hR hkl hn => ?_)
  have hC : Cx (sR g) K gC_Mo _ := hC
  show V K (wp (sR g)) M 0 [(0, .ref (ga g 0))] []
  refine v_aload_n h0 d_Mo_goOn_0 0 rfl ?_
  refine g_Mo_open_ h0 hC wd_473 d_Mo_goOn_1 ?_
  have hn24 := hT.2.1
  refine v_int (nI (o + 1)) (ho) ?_
  refine v_iconst h0 d_Mo_goOn_4 (v := nI 1) (by decide) ?_
  refine v_isub h0 d_Mo_goOn_5 ?_
  refine v_int (nI o) (pred1 o) ?_
  refine v_istore_n h0 d_Mo_goOn_6 (lv' := [(1, .int (nI o)), (0, .ref (ga g 0))]) (lt_kn hn (by decide)) rfl ?_
  refine v_aload_n h0 d_Mo_goOn_7 1 rfl ?_
  refine g_Mo_cellAt_ h0 hC wd_469 d_Mo_goOn_8 ?_
  refine v_iload_n h0 d_Mo_goOn_11 0 rfl ?_
  refine a_Mo_cellAt_ h0 hC o (rfl) (by omega) d_Mo_goOn_12 ?_
  refine v_int (nI c) (h17) ?_
  refine v_istore_n h0 d_Mo_goOn_13 (lv' := [(2, .int (nI c)), (1, .int (nI o)), (0, .ref (ga g 0))]) (lt_kn hn (by decide)) rfl ?_
  refine v_aload_n h0 d_Mo_goOn_14 2 rfl ?_
  refine g_Mo_at_ h0 hC wd_470 d_Mo_goOn_15 ?_
  refine v_iload_n h0 d_Mo_goOn_18 1 rfl ?_
  refine a_Mo_at_ h0 hC o (rfl) (by omega) d_Mo_goOn_19 ?_
  refine v_int (nI k) (h18) ?_
  refine v_istore_n h0 d_Mo_goOn_20 (lv' := [(3, .int (nI k)), (2, .int (nI c)), (1, .int (nI o)), (0, .ref (ga g 0))]) (lt_kn hn (by decide)) rfl ?_
  refine v_aload_n h0 d_Mo_goOn_21 3 rfl ?_
  refine v_iload_n h0 d_Mo_goOn_22 1 rfl ?_
  refine v_iload_n h0 d_Mo_goOn_23 0 rfl ?_
  refine v_callV h0 hC (sR_N0 g) 0 (show 0 < 22 by omega) (show enR g 0 _ = _ from rfl) rfl (av := [.int (nI c), .int (nI k)]) (rest := []) (m_Mo_charAt (kl K) g hI M hc (by omega) hT) wd_564 wd_561 wd_563 ws_32 wd_6 hd_Mo_charAt (by omega) (by decide) rfl rfl (Nat.le_of_ble_eq_true rfl) d_Mo_goOn_24 (fun r9 M9 hp9 => ?_)
  obtain ⟨rfl, rfl⟩ := hp9
  refine v_r1 ?_
  refine v_int (s k) (if_pos hk) ?_
  refine v_istore h0 d_Mo_goOn_27 (lv' := [(4, .int (s k)), (3, .int (nI k)), (2, .int (nI c)), (1, .int (nI o)), (0, .ref (ga g 0))]) (lt_kn hn (by decide)) rfl ?_
  refine v_aload_n h0 d_Mo_goOn_29 4 rfl ?_
  refine g_Mo_stage_ h0 hC wd_471 d_Mo_goOn_30 ?_
  refine v_iload_n h0 d_Mo_goOn_33 3 rfl ?_
  refine a_Mo_stage_ h0 hC o (rfl) (by omega) d_Mo_goOn_34 ?_
  refine v_int (nI 2) (h19) ?_
  refine v_istore h0 d_Mo_goOn_35 (lv' := [(5, .int (nI 2)), (4, .int (s k)), (3, .int (nI k)), (2, .int (nI c)), (1, .int (nI o)), (0, .ref (ga g 0))]) (lt_kn hn (by decide)) rfl ?_
  refine v_aload_n h0 d_Mo_goOn_37 5 rfl ?_
  refine g_Mo_stage_ h0 hC wd_471 d_Mo_goOn_38 ?_
  refine v_iload_n h0 d_Mo_goOn_41 4 rfl ?_
  refine v_iload h0 d_Mo_goOn_42 0 rfl ?_
  refine v_iconst h0 d_Mo_goOn_44 (v := nI 1) (by decide) ?_
  refine v_iadd h0 d_Mo_goOn_45 ?_
  refine v_int (nI (2 + 1)) (nI_add 2 1) ?_
  refine v_int (nI 3) (rfl) ?_
  refine s_Mo_stage_ h0 hC o (rfl) (z := nI 3) (rfl) (by omega) d_Mo_goOn_46 ?_
  refine v_iload h0 d_Mo_goOn_47 1 rfl ?_
  refine v_callS h0 hC (sR_N0 g) (av := [.int (s k)]) (rest := []) (m_Mo_isDigit (kl K) g hI _ _) wd_574 wd_572 wd_573 wd_6 hd_Mo_isDigit (by omega) (by decide) rfl rfl (Nat.le_of_ble_eq_true rfl) d_Mo_goOn_49 (fun r9 M9 hp9 => ?_)
  obtain ⟨rfl, rfl⟩ := hp9
  refine v_r1 ?_
  refine b_if_eq h0 d_Mo_goOn_52 rfl (fun h52 => ?_) (fun h52 => absurd h52 (by unfold kdB; rw [hx]; decide))
  refine v_iload h0 d_Mo_goOn_67 1 rfl ?_
  refine v_callS h0 hC (sR_N0 g) (av := [.int (s k)]) (rest := []) (m_Mo_isName (kl K) g hI _ _) wd_581 wd_579 wd_580 wd_6 hd_Mo_isName (by omega) (by decide) rfl rfl (Nat.le_of_ble_eq_true rfl) d_Mo_goOn_69 (fun r9 M9 hp9 => ?_)
  obtain ⟨rfl, rfl⟩ := hp9
  refine v_r1 ?_
  refine b_if_eq h0 d_Mo_goOn_72 rfl (fun h72 => ?_) (fun h72 => absurd h72 (by unfold kdB; rw [hx]; decide))
  refine v_iload h0 d_Mo_goOn_96 1 rfl ?_
  refine v_callS h0 hC (sR_N0 g) (av := [.int (s k)]) (rest := []) (m_Mo_isLocal (kl K) g hI _ _) wd_567 wd_565 wd_566 wd_6 hd_Mo_isLocal (by omega) (by decide) rfl rfl (Nat.le_of_ble_eq_true rfl) d_Mo_goOn_98 (fun r9 M9 hp9 => ?_)
  obtain ⟨rfl, rfl⟩ := hp9
  refine v_r1 ?_
  refine b_if_eq h0 d_Mo_goOn_101 rfl (fun h101 => ?_) (fun h101 => absurd h101 (by unfold kdB; rw [hx]; decide))
  refine v_iload h0 d_Mo_goOn_129 0 rfl ?_
  refine v_if_ne h0 d_Mo_goOn_131 rfl (fun h131 => ?_) (fun h131 => absurd h131 (by decide))
  refine v_iload h0 d_Mo_goOn_165 1 rfl ?_
  refine v_bipush h0 d_Mo_goOn_167 (v := nI 126) (by decide) ?_
  refine v_icmp_ne h0 d_Mo_goOn_169 rfl (fun h169 => ?_) (fun h169 => absurd h169 (fun z => absurd (hx.symm.trans ((kd_1 _).mpr z)) (by decide)))
  refine v_iload h0 d_Mo_goOn_185 1 rfl ?_
  refine v_bipush h0 d_Mo_goOn_187 (v := nI 63) (by decide) ?_
  refine v_icmp_ne h0 d_Mo_goOn_189 rfl (fun h189 => ?_) (fun h189 => absurd h189 (fun z => absurd (hx.symm.trans ((kd_3 _).mpr z)) (by decide)))
  refine v_iload h0 d_Mo_goOn_204 1 rfl ?_
  refine v_bipush h0 d_Mo_goOn_206 (v := nI 36) (by decide) ?_
  refine v_icmp_ne h0 d_Mo_goOn_208 rfl (fun h208 => ?_) (fun h208 => absurd h208 (fun z => absurd (hx.symm.trans ((kd_4 _).mpr z)) (by decide)))
  refine v_iload h0 d_Mo_goOn_223 1 rfl ?_
  refine v_bipush h0 d_Mo_goOn_225 (v := nI 33) (by decide) ?_
  refine v_icmp_ne h0 d_Mo_goOn_227 rfl (fun h227 => absurd h227 (fun z => z ((kd_5 _).mp hx))) (fun h227 => ?_)
  refine v_aload_n h0 d_Mo_goOn_230 5 rfl ?_
  refine v_iload_n h0 d_Mo_goOn_231 3 rfl ?_
  refine v_iload_n h0 d_Mo_goOn_232 2 rfl ?_
  refine v_iload h0 d_Mo_goOn_233 0 rfl ?_
  refine v_callV h0 hC (sR_N0 g) 0 (show 0 < 22 by omega) (show enR g 0 _ = _ from rfl) rfl (av := [.int (nI c), .int (nI k), .int (nI 2)]) (rest := []) (m_Mo_call_2 (kl K) g hI _ (by rw [up2_n _ _ (by omega)]; exact hd) (by rw [up2_n _ _ (by omega)]; exact ho) ho3) wd_699 wd_696 wd_698 ws_60 wd_6 hd_Mo_call (by omega) (by decide) rfl rfl (Nat.le_of_ble_eq_true rfl) d_Mo_goOn_235 (fun r9 M9 hp9 => ?_)
  obtain ⟨rfl, rfl⟩ := hp9
  refine v_r0 ?_
  refine v_goto h0 d_Mo_goOn_238 rfl ?_
  exact v_vret h0 hC hR d_Mo_goOn_348 (⟨rfl, by rw [up2_n M (i := 19) _ (by omega)]⟩)
set_option maxHeartbeats 4000000 in
theorem m_Mo_goOn_51x (l : Launch) (g : Gd) (hI : sI (sR g)) (M : Me) {s : Nat → Int32} {c n k o : Nat} (hc : c < 10) (hT : TR M c s n) (hk : k < n) (ho : M 0 25 = nI (o + 1)) (ho3 : o < 300) (h17 : M 17 o = nI c) (h18 : M 18 o = nI k) (hx : kd (s k) = 5) (h19 : M 19 o = nI 1) (hd : M 0 27 = nI 5) : CR l g y_Mo_goOn c_Mo_goOn 6 none 3 [.ref (ga g 0)] M (fun r M' => r = none ∧ M' = up2 (up2 M 19 o (nI 2)) 0 30 (nI 9)) := by
  refine Ct.of hI (sR_N0 g) rfl (Nat.le_of_ble_eq_true rfl) (fun K h0 hC hR hkl hn => ?_)
  have hC : Cx (sR g) K gC_Mo _ := hC
  show V K (wp (sR g)) M 0 [(0, .ref (ga g 0))] []
  refine v_aload_n h0 d_Mo_goOn_0 0 rfl ?_
  refine g_Mo_open_ h0 hC wd_473 d_Mo_goOn_1 ?_
  have hn24 := hT.2.1
  refine v_int (nI (o + 1)) (ho) ?_
  refine v_iconst h0 d_Mo_goOn_4 (v := nI 1) (by decide) ?_
  refine v_isub h0 d_Mo_goOn_5 ?_
  refine v_int (nI o) (pred1 o) ?_
  refine v_istore_n h0 d_Mo_goOn_6 (lv' := [(1, .int (nI o)), (0, .ref (ga g 0))]) (lt_kn hn (by decide)) rfl ?_
  refine v_aload_n h0 d_Mo_goOn_7 1 rfl ?_
  refine g_Mo_cellAt_ h0 hC wd_469 d_Mo_goOn_8 ?_
  refine v_iload_n h0 d_Mo_goOn_11 0 rfl ?_
  refine a_Mo_cellAt_ h0 hC o (rfl) (by omega) d_Mo_goOn_12 ?_
  refine v_int (nI c) (h17) ?_
  refine v_istore_n h0 d_Mo_goOn_13 (lv' := [(2, .int (nI c)), (1, .int (nI o)), (0, .ref (ga g 0))]) (lt_kn hn (by decide)) rfl ?_
  refine v_aload_n h0 d_Mo_goOn_14 2 rfl ?_
  refine g_Mo_at_ h0 hC wd_470 d_Mo_goOn_15 ?_
  refine v_iload_n h0 d_Mo_goOn_18 1 rfl ?_
  refine a_Mo_at_ h0 hC o (rfl) (by omega) d_Mo_goOn_19 ?_
  refine v_int (nI k) (h18) ?_
  refine v_istore_n h0 d_Mo_goOn_20 (lv' := [(3, .int (nI k)), (2, .int (nI c)), (1, .int (nI o)), (0, .ref (ga g 0))]) (lt_kn hn (by decide)) rfl ?_
  refine v_aload_n h0 d_Mo_goOn_21 3 rfl ?_
  refine v_iload_n h0 d_Mo_goOn_22 1 rfl ?_
  refine v_iload_n h0 d_Mo_goOn_23 0 rfl ?_
  refine v_callV h0 hC (sR_N0 g) 0 (show 0 < 22 by omega) (show enR g 0 _ = _ from rfl) rfl (av := [.int (nI c), .int (nI k)]) (rest := []) (m_Mo_charAt (kl K) g hI M hc (by omega) hT) wd_564 wd_561 wd_563 ws_32 wd_6 hd_Mo_charAt (by omega) (by decide) rfl rfl (Nat.le_of_ble_eq_true rfl) d_Mo_goOn_24 (fun r9 M9 hp9 => ?_)
  obtain ⟨rfl, rfl⟩ := hp9
  refine v_r1 ?_
  refine v_int (s k) (if_pos hk) ?_
  refine v_istore h0 d_Mo_goOn_27 (lv' := [(4, .int (s k)), (3, .int (nI k)), (2, .int (nI c)), (1, .int (nI o)), (0, .ref (ga g 0))]) (lt_kn hn (by decide)) rfl ?_
  refine v_aload_n h0 d_Mo_goOn_29 4 rfl ?_
  refine g_Mo_stage_ h0 hC wd_471 d_Mo_goOn_30 ?_
  refine v_iload_n h0 d_Mo_goOn_33 3 rfl ?_
  refine a_Mo_stage_ h0 hC o (rfl) (by omega) d_Mo_goOn_34 ?_
  refine v_int (nI 1) (h19) ?_
  refine v_istore h0 d_Mo_goOn_35 (lv' := [(5, .int (nI 1)), (4, .int (s k)), (3, .int (nI k)), (2, .int (nI c)), (1, .int (nI o)), (0, .ref (ga g 0))]) (lt_kn hn (by decide)) rfl ?_
  refine v_aload_n h0 d_Mo_goOn_37 5 rfl ?_
  refine g_Mo_stage_ h0 hC wd_471 d_Mo_goOn_38 ?_
  refine v_iload_n h0 d_Mo_goOn_41 4 rfl ?_
  refine v_iload h0 d_Mo_goOn_42 0 rfl ?_
  refine v_iconst h0 d_Mo_goOn_44 (v := nI 1) (by decide) ?_
  refine v_iadd h0 d_Mo_goOn_45 ?_
  refine v_int (nI (1 + 1)) (nI_add 1 1) ?_
  refine v_int (nI 2) (rfl) ?_
  refine s_Mo_stage_ h0 hC o (rfl) (z := nI 2) (rfl) (by omega) d_Mo_goOn_46 ?_
  refine v_iload h0 d_Mo_goOn_47 1 rfl ?_
  refine v_callS h0 hC (sR_N0 g) (av := [.int (s k)]) (rest := []) (m_Mo_isDigit (kl K) g hI _ _) wd_574 wd_572 wd_573 wd_6 hd_Mo_isDigit (by omega) (by decide) rfl rfl (Nat.le_of_ble_eq_true rfl) d_Mo_goOn_49 (fun r9 M9 hp9 => ?_)
  obtain ⟨rfl, rfl⟩ := hp9
  refine v_r1 ?_
  refine b_if_eq h0 d_Mo_goOn_52 rfl (fun h52 => ?_) (fun h52 => absurd h52 (by unfold kdB; rw [hx]; decide))
  refine v_iload h0 d_Mo_goOn_67 1 rfl ?_
  refine v_callS h0 hC (sR_N0 g) (av := [.int (s k)]) (rest := []) (m_Mo_isName (kl K) g hI _ _) wd_581 wd_579 wd_580 wd_6 hd_Mo_isName (by omega) (by decide) rfl rfl (Nat.le_of_ble_eq_true rfl) d_Mo_goOn_69 (fun r9 M9 hp9 => ?_)
  obtain ⟨rfl, rfl⟩ := hp9
  refine v_r1 ?_
  refine b_if_eq h0 d_Mo_goOn_72 rfl (fun h72 => ?_) (fun h72 => absurd h72 (by unfold kdB; rw [hx]; decide))
  refine v_iload h0 d_Mo_goOn_96 1 rfl ?_
  refine v_callS h0 hC (sR_N0 g) (av := [.int (s k)]) (rest := []) (m_Mo_isLocal (kl K) g hI _ _) wd_567 wd_565 wd_566 wd_6 hd_Mo_isLocal (by omega) (by decide) rfl rfl (Nat.le_of_ble_eq_true rfl) d_Mo_goOn_98 (fun r9 M9 hp9 => ?_)
  obtain ⟨rfl, rfl⟩ := hp9
  refine v_r1 ?_
  refine b_if_eq h0 d_Mo_goOn_101 rfl (fun h101 => ?_) (fun h101 => absurd h101 (by unfold kdB; rw [hx]; decide))
  refine v_iload h0 d_Mo_goOn_129 0 rfl ?_
  refine v_if_ne h0 d_Mo_goOn_131 rfl (fun h131 => ?_) (fun h131 => absurd h131 (by decide))
  refine v_iload h0 d_Mo_goOn_165 1 rfl ?_
  refine v_bipush h0 d_Mo_goOn_167 (v := nI 126) (by decide) ?_
  refine v_icmp_ne h0 d_Mo_goOn_169 rfl (fun h169 => ?_) (fun h169 => absurd h169 (fun z => absurd (hx.symm.trans ((kd_1 _).mpr z)) (by decide)))
  refine v_iload h0 d_Mo_goOn_185 1 rfl ?_
  refine v_bipush h0 d_Mo_goOn_187 (v := nI 63) (by decide) ?_
  refine v_icmp_ne h0 d_Mo_goOn_189 rfl (fun h189 => ?_) (fun h189 => absurd h189 (fun z => absurd (hx.symm.trans ((kd_3 _).mpr z)) (by decide)))
  refine v_iload h0 d_Mo_goOn_204 1 rfl ?_
  refine v_bipush h0 d_Mo_goOn_206 (v := nI 36) (by decide) ?_
  refine v_icmp_ne h0 d_Mo_goOn_208 rfl (fun h208 => ?_) (fun h208 => absurd h208 (fun z => absurd (hx.symm.trans ((kd_4 _).mpr z)) (by decide)))
  refine v_iload h0 d_Mo_goOn_223 1 rfl ?_
  refine v_bipush h0 d_Mo_goOn_225 (v := nI 33) (by decide) ?_
  refine v_icmp_ne h0 d_Mo_goOn_227 rfl (fun h227 => absurd h227 (fun z => z ((kd_5 _).mp hx))) (fun h227 => ?_)
  refine v_aload_n h0 d_Mo_goOn_230 5 rfl ?_
  refine v_iload_n h0 d_Mo_goOn_231 3 rfl ?_
  refine v_iload_n h0 d_Mo_goOn_232 2 rfl ?_
  refine v_iload h0 d_Mo_goOn_233 0 rfl ?_
  refine v_callV h0 hC (sR_N0 g) 0 (show 0 < 22 by omega) (show enR g 0 _ = _ from rfl) rfl (av := [.int (nI c), .int (nI k), .int (nI 1)]) (rest := []) (m_Mo_call_5 (kl K) g hI _ (by rw [up2_n _ _ (by omega)]; exact hd)) wd_699 wd_696 wd_698 ws_60 wd_6 hd_Mo_call (by omega) (by decide) rfl rfl (Nat.le_of_ble_eq_true rfl) d_Mo_goOn_235 (fun r9 M9 hp9 => ?_)
  obtain ⟨rfl, rfl⟩ := hp9
  refine v_r0 ?_
  refine v_goto h0 d_Mo_goOn_238 rfl ?_
  exact v_vret h0 hC hR d_Mo_goOn_348 (⟨rfl, rfl⟩)
set_option maxHeartbeats 4000000 in
theorem m_Mo_goOn_51 (l : Launch) (g : Gd) (hI : sI (sR g)) (M : Me) {s : Nat → Int32} {c n k o : Nat} (hc : c < 10) (hT : TR M c s n) (hk : k < n) (ho : M 0 25 = nI (o + 1)) (ho3 : o < 300) (h17 : M 17 o = nI c) (h18 : M 18 o = nI k) (hx : kd (s k) = 5) (h19 : M 19 o = nI 1) {β : Me} {n2 dp : Nat} {s2 : Nat → Int32} (hTx : TxR M β) (hk1 : k + 1 < n) (hy : kd (s (k + 1)) = 8) (hj : ¬ dfL β (nmI (s (k + 1))) 10 < 0) (hT2 : TR M (dfN β (nmI (s (k + 1)))) s2 n2) (hn2 : 1 < n2) (hy2 : kd (s2 1) = 9) (hd : M 0 27 = nI dp) (hdp : dp < 5) {fu : Nat} (hf : M 0 28 = nI fu) (hfu : fu ≤ 2000) : CR l g y_Mo_goOn c_Mo_goOn 6 none 3 [.ref (ga g 0)] M (fun r M' => r = none ∧ M' = enF (up2 (up2 (up2 M 19 o (nI 2)) 0 27 (nI (dp + 1))) 21 (6 * (dp + 1) + lcI (s2 1)) (M 0 29)) (dfN β (nmI (s (k + 1)))) 2 (o + 1) fu) := by
  refine Ct.of hI (sR_N0 g) rfl (Nat.le_of_ble_eq_true rfl) (fun K h0 hC hR hkl hn => ?_)
  have hC : Cx (sR g) K gC_Mo _ := hC
  show V K (wp (sR g)) M 0 [(0, .ref (ga g 0))] []
  refine v_aload_n h0 d_Mo_goOn_0 0 rfl ?_
  refine g_Mo_open_ h0 hC wd_473 d_Mo_goOn_1 ?_
  have hn24 := hT.2.1
  refine v_int (nI (o + 1)) (ho) ?_
  refine v_iconst h0 d_Mo_goOn_4 (v := nI 1) (by decide) ?_
  refine v_isub h0 d_Mo_goOn_5 ?_
  refine v_int (nI o) (pred1 o) ?_
  refine v_istore_n h0 d_Mo_goOn_6 (lv' := [(1, .int (nI o)), (0, .ref (ga g 0))]) (lt_kn hn (by decide)) rfl ?_
  refine v_aload_n h0 d_Mo_goOn_7 1 rfl ?_
  refine g_Mo_cellAt_ h0 hC wd_469 d_Mo_goOn_8 ?_
  refine v_iload_n h0 d_Mo_goOn_11 0 rfl ?_
  refine a_Mo_cellAt_ h0 hC o (rfl) (by omega) d_Mo_goOn_12 ?_
  refine v_int (nI c) (h17) ?_
  refine v_istore_n h0 d_Mo_goOn_13 (lv' := [(2, .int (nI c)), (1, .int (nI o)), (0, .ref (ga g 0))]) (lt_kn hn (by decide)) rfl ?_
  refine v_aload_n h0 d_Mo_goOn_14 2 rfl ?_
  refine g_Mo_at_ h0 hC wd_470 d_Mo_goOn_15 ?_
  refine v_iload_n h0 d_Mo_goOn_18 1 rfl ?_
  refine a_Mo_at_ h0 hC o (rfl) (by omega) d_Mo_goOn_19 ?_
  refine v_int (nI k) (h18) ?_
  refine v_istore_n h0 d_Mo_goOn_20 (lv' := [(3, .int (nI k)), (2, .int (nI c)), (1, .int (nI o)), (0, .ref (ga g 0))]) (lt_kn hn (by decide)) rfl ?_
  refine v_aload_n h0 d_Mo_goOn_21 3 rfl ?_
  refine v_iload_n h0 d_Mo_goOn_22 1 rfl ?_
  refine v_iload_n h0 d_Mo_goOn_23 0 rfl ?_
  refine v_callV h0 hC (sR_N0 g) 0 (show 0 < 22 by omega) (show enR g 0 _ = _ from rfl) rfl (av := [.int (nI c), .int (nI k)]) (rest := []) (m_Mo_charAt (kl K) g hI M hc (by omega) hT) wd_564 wd_561 wd_563 ws_32 wd_6 hd_Mo_charAt (by omega) (by decide) rfl rfl (Nat.le_of_ble_eq_true rfl) d_Mo_goOn_24 (fun r9 M9 hp9 => ?_)
  obtain ⟨rfl, rfl⟩ := hp9
  refine v_r1 ?_
  refine v_int (s k) (if_pos hk) ?_
  refine v_istore h0 d_Mo_goOn_27 (lv' := [(4, .int (s k)), (3, .int (nI k)), (2, .int (nI c)), (1, .int (nI o)), (0, .ref (ga g 0))]) (lt_kn hn (by decide)) rfl ?_
  refine v_aload_n h0 d_Mo_goOn_29 4 rfl ?_
  refine g_Mo_stage_ h0 hC wd_471 d_Mo_goOn_30 ?_
  refine v_iload_n h0 d_Mo_goOn_33 3 rfl ?_
  refine a_Mo_stage_ h0 hC o (rfl) (by omega) d_Mo_goOn_34 ?_
  refine v_int (nI 1) (h19) ?_
  refine v_istore h0 d_Mo_goOn_35 (lv' := [(5, .int (nI 1)), (4, .int (s k)), (3, .int (nI k)), (2, .int (nI c)), (1, .int (nI o)), (0, .ref (ga g 0))]) (lt_kn hn (by decide)) rfl ?_
  refine v_aload_n h0 d_Mo_goOn_37 5 rfl ?_
  refine g_Mo_stage_ h0 hC wd_471 d_Mo_goOn_38 ?_
  refine v_iload_n h0 d_Mo_goOn_41 4 rfl ?_
  refine v_iload h0 d_Mo_goOn_42 0 rfl ?_
  refine v_iconst h0 d_Mo_goOn_44 (v := nI 1) (by decide) ?_
  refine v_iadd h0 d_Mo_goOn_45 ?_
  refine v_int (nI (1 + 1)) (nI_add 1 1) ?_
  refine v_int (nI 2) (rfl) ?_
  refine s_Mo_stage_ h0 hC o (rfl) (z := nI 2) (rfl) (by omega) d_Mo_goOn_46 ?_
  refine v_iload h0 d_Mo_goOn_47 1 rfl ?_
  refine v_callS h0 hC (sR_N0 g) (av := [.int (s k)]) (rest := []) (m_Mo_isDigit (kl K) g hI _ _) wd_574 wd_572 wd_573 wd_6 hd_Mo_isDigit (by omega) (by decide) rfl rfl (Nat.le_of_ble_eq_true rfl) d_Mo_goOn_49 (fun r9 M9 hp9 => ?_)
  obtain ⟨rfl, rfl⟩ := hp9
  refine v_r1 ?_
  refine b_if_eq h0 d_Mo_goOn_52 rfl (fun h52 => ?_) (fun h52 => absurd h52 (by unfold kdB; rw [hx]; decide))
  refine v_iload h0 d_Mo_goOn_67 1 rfl ?_
  refine v_callS h0 hC (sR_N0 g) (av := [.int (s k)]) (rest := []) (m_Mo_isName (kl K) g hI _ _) wd_581 wd_579 wd_580 wd_6 hd_Mo_isName (by omega) (by decide) rfl rfl (Nat.le_of_ble_eq_true rfl) d_Mo_goOn_69 (fun r9 M9 hp9 => ?_)
  obtain ⟨rfl, rfl⟩ := hp9
  refine v_r1 ?_
  refine b_if_eq h0 d_Mo_goOn_72 rfl (fun h72 => ?_) (fun h72 => absurd h72 (by unfold kdB; rw [hx]; decide))
  refine v_iload h0 d_Mo_goOn_96 1 rfl ?_
  refine v_callS h0 hC (sR_N0 g) (av := [.int (s k)]) (rest := []) (m_Mo_isLocal (kl K) g hI _ _) wd_567 wd_565 wd_566 wd_6 hd_Mo_isLocal (by omega) (by decide) rfl rfl (Nat.le_of_ble_eq_true rfl) d_Mo_goOn_98 (fun r9 M9 hp9 => ?_)
  obtain ⟨rfl, rfl⟩ := hp9
  refine v_r1 ?_
  refine b_if_eq h0 d_Mo_goOn_101 rfl (fun h101 => ?_) (fun h101 => absurd h101 (by unfold kdB; rw [hx]; decide))
  refine v_iload h0 d_Mo_goOn_129 0 rfl ?_
  refine v_if_ne h0 d_Mo_goOn_131 rfl (fun h131 => ?_) (fun h131 => absurd h131 (by decide))
  refine v_iload h0 d_Mo_goOn_165 1 rfl ?_
  refine v_bipush h0 d_Mo_goOn_167 (v := nI 126) (by decide) ?_
  refine v_icmp_ne h0 d_Mo_goOn_169 rfl (fun h169 => ?_) (fun h169 => absurd h169 (fun z => absurd (hx.symm.trans ((kd_1 _).mpr z)) (by decide)))
  refine v_iload h0 d_Mo_goOn_185 1 rfl ?_
  refine v_bipush h0 d_Mo_goOn_187 (v := nI 63) (by decide) ?_
  refine v_icmp_ne h0 d_Mo_goOn_189 rfl (fun h189 => ?_) (fun h189 => absurd h189 (fun z => absurd (hx.symm.trans ((kd_3 _).mpr z)) (by decide)))
  refine v_iload h0 d_Mo_goOn_204 1 rfl ?_
  refine v_bipush h0 d_Mo_goOn_206 (v := nI 36) (by decide) ?_
  refine v_icmp_ne h0 d_Mo_goOn_208 rfl (fun h208 => ?_) (fun h208 => absurd h208 (fun z => absurd (hx.symm.trans ((kd_4 _).mpr z)) (by decide)))
  refine v_iload h0 d_Mo_goOn_223 1 rfl ?_
  refine v_bipush h0 d_Mo_goOn_225 (v := nI 33) (by decide) ?_
  refine v_icmp_ne h0 d_Mo_goOn_227 rfl (fun h227 => absurd h227 (fun z => z ((kd_5 _).mp hx))) (fun h227 => ?_)
  refine v_aload_n h0 d_Mo_goOn_230 5 rfl ?_
  refine v_iload_n h0 d_Mo_goOn_231 3 rfl ?_
  refine v_iload_n h0 d_Mo_goOn_232 2 rfl ?_
  refine v_iload h0 d_Mo_goOn_233 0 rfl ?_
  refine v_callV h0 hC (sR_N0 g) 0 (show 0 < 22 by omega) (show enR g 0 _ = _ from rfl) rfl (av := [.int (nI c), .int (nI k), .int (nI 1)]) (rest := []) (m_Mo_call_1 (kl K) g hI _ hc (show TR (up2 M 19 o (nI 2)) c s n from ⟨by rw [up2_n _ _ (by omega)]; exact hT.1, hT.2.1, fun j hj => by rw [up2_n _ _ (by omega)]; exact hT.2.2.1 j hj, hT.2.2.2⟩) (hTx.rows (fun i hi => up2_q _ _ (by omega))) hk1 hy hj (show TR (up2 M 19 o (nI 2)) (dfN β (nmI (s (k + 1)))) s2 n2 from ⟨by rw [up2_n _ _ (by omega)]; exact hT2.1, hT2.2.1, fun j hj => by rw [up2_n _ _ (by omega)]; exact hT2.2.2.1 j hj, hT2.2.2.2⟩) hn2 hy2 (by rw [up2_n _ _ (by omega)]; exact hd) hdp (by rw [up2_n _ _ (by omega)]; exact ho) ho3 (by rw [up2_n _ _ (by omega)]; exact hf) hfu) wd_699 wd_696 wd_698 ws_60 wd_6 hd_Mo_call (by omega) (by decide) rfl rfl (Nat.le_of_ble_eq_true rfl) d_Mo_goOn_235 (fun r9 M9 hp9 => ?_)
  obtain ⟨rfl, rfl⟩ := hp9
  refine v_r0 ?_
  refine v_goto h0 d_Mo_goOn_238 rfl ?_
  exact v_vret h0 hC hR d_Mo_goOn_348 (⟨rfl, by rw [up2_n M (i := 19) _ (by omega)]⟩)
set_option maxHeartbeats 4000000 in
theorem m_Mo_goOn_62 (l : Launch) (g : Gd) (hI : sI (sR g)) (M : Me) {s : Nat → Int32} {c n k o : Nat} (hc : c < 10) (hT : TR M c s n) (hk : k < n) (ho : M 0 25 = nI (o + 1)) (ho3 : o < 300) (h17 : M 17 o = nI c) (h18 : M 18 o = nI k) (hx : kd (s k) = 6) (h19 : M 19 o = nI 2)  : CR l g y_Mo_goOn c_Mo_goOn 6 none 3 [.ref (ga g 0)] M (fun r M' => r = none ∧ M' = lvM (up2 M 19 o (nI 3)) (M 0 29) o) := by
  refine Ct.of hI (sR_N0 g) rfl (Nat.le_of_ble_eq_true rfl) (fun K h0 hC hR hkl hn => ?_)
  have hC : Cx (sR g) K gC_Mo _ := hC
  show V K (wp (sR g)) M 0 [(0, .ref (ga g 0))] []
  refine v_aload_n h0 d_Mo_goOn_0 0 rfl ?_
  refine g_Mo_open_ h0 hC wd_473 d_Mo_goOn_1 ?_
  have hn24 := hT.2.1
  refine v_int (nI (o + 1)) (ho) ?_
  refine v_iconst h0 d_Mo_goOn_4 (v := nI 1) (by decide) ?_
  refine v_isub h0 d_Mo_goOn_5 ?_
  refine v_int (nI o) (pred1 o) ?_
  refine v_istore_n h0 d_Mo_goOn_6 (lv' := [(1, .int (nI o)), (0, .ref (ga g 0))]) (lt_kn hn (by decide)) rfl ?_
  refine v_aload_n h0 d_Mo_goOn_7 1 rfl ?_
  refine g_Mo_cellAt_ h0 hC wd_469 d_Mo_goOn_8 ?_
  refine v_iload_n h0 d_Mo_goOn_11 0 rfl ?_
  refine a_Mo_cellAt_ h0 hC o (rfl) (by omega) d_Mo_goOn_12 ?_
  refine v_int (nI c) (h17) ?_
  refine v_istore_n h0 d_Mo_goOn_13 (lv' := [(2, .int (nI c)), (1, .int (nI o)), (0, .ref (ga g 0))]) (lt_kn hn (by decide)) rfl ?_
  refine v_aload_n h0 d_Mo_goOn_14 2 rfl ?_
  refine g_Mo_at_ h0 hC wd_470 d_Mo_goOn_15 ?_
  refine v_iload_n h0 d_Mo_goOn_18 1 rfl ?_
  refine a_Mo_at_ h0 hC o (rfl) (by omega) d_Mo_goOn_19 ?_
  refine v_int (nI k) (h18) ?_
  refine v_istore_n h0 d_Mo_goOn_20 (lv' := [(3, .int (nI k)), (2, .int (nI c)), (1, .int (nI o)), (0, .ref (ga g 0))]) (lt_kn hn (by decide)) rfl ?_
  refine v_aload_n h0 d_Mo_goOn_21 3 rfl ?_
  refine v_iload_n h0 d_Mo_goOn_22 1 rfl ?_
  refine v_iload_n h0 d_Mo_goOn_23 0 rfl ?_
  refine v_callV h0 hC (sR_N0 g) 0 (show 0 < 22 by omega) (show enR g 0 _ = _ from rfl) rfl (av := [.int (nI c), .int (nI k)]) (rest := []) (m_Mo_charAt (kl K) g hI M hc (by omega) hT) wd_564 wd_561 wd_563 ws_32 wd_6 hd_Mo_charAt (by omega) (by decide) rfl rfl (Nat.le_of_ble_eq_true rfl) d_Mo_goOn_24 (fun r9 M9 hp9 => ?_)
  obtain ⟨rfl, rfl⟩ := hp9
  refine v_r1 ?_
  refine v_int (s k) (if_pos hk) ?_
  refine v_istore h0 d_Mo_goOn_27 (lv' := [(4, .int (s k)), (3, .int (nI k)), (2, .int (nI c)), (1, .int (nI o)), (0, .ref (ga g 0))]) (lt_kn hn (by decide)) rfl ?_
  refine v_aload_n h0 d_Mo_goOn_29 4 rfl ?_
  refine g_Mo_stage_ h0 hC wd_471 d_Mo_goOn_30 ?_
  refine v_iload_n h0 d_Mo_goOn_33 3 rfl ?_
  refine a_Mo_stage_ h0 hC o (rfl) (by omega) d_Mo_goOn_34 ?_
  refine v_int (nI 2) (h19) ?_
  refine v_istore h0 d_Mo_goOn_35 (lv' := [(5, .int (nI 2)), (4, .int (s k)), (3, .int (nI k)), (2, .int (nI c)), (1, .int (nI o)), (0, .ref (ga g 0))]) (lt_kn hn (by decide)) rfl ?_
  refine v_aload_n h0 d_Mo_goOn_37 5 rfl ?_
  refine g_Mo_stage_ h0 hC wd_471 d_Mo_goOn_38 ?_
  refine v_iload_n h0 d_Mo_goOn_41 4 rfl ?_
  refine v_iload h0 d_Mo_goOn_42 0 rfl ?_
  refine v_iconst h0 d_Mo_goOn_44 (v := nI 1) (by decide) ?_
  refine v_iadd h0 d_Mo_goOn_45 ?_
  refine v_int (nI (2 + 1)) (nI_add 2 1) ?_
  refine v_int (nI 3) (rfl) ?_
  refine s_Mo_stage_ h0 hC o (rfl) (z := nI 3) (rfl) (by omega) d_Mo_goOn_46 ?_
  refine v_iload h0 d_Mo_goOn_47 1 rfl ?_
  refine v_callS h0 hC (sR_N0 g) (av := [.int (s k)]) (rest := []) (m_Mo_isDigit (kl K) g hI _ _) wd_574 wd_572 wd_573 wd_6 hd_Mo_isDigit (by omega) (by decide) rfl rfl (Nat.le_of_ble_eq_true rfl) d_Mo_goOn_49 (fun r9 M9 hp9 => ?_)
  obtain ⟨rfl, rfl⟩ := hp9
  refine v_r1 ?_
  refine b_if_eq h0 d_Mo_goOn_52 rfl (fun h52 => ?_) (fun h52 => absurd h52 (by unfold kdB; rw [hx]; decide))
  refine v_iload h0 d_Mo_goOn_67 1 rfl ?_
  refine v_callS h0 hC (sR_N0 g) (av := [.int (s k)]) (rest := []) (m_Mo_isName (kl K) g hI _ _) wd_581 wd_579 wd_580 wd_6 hd_Mo_isName (by omega) (by decide) rfl rfl (Nat.le_of_ble_eq_true rfl) d_Mo_goOn_69 (fun r9 M9 hp9 => ?_)
  obtain ⟨rfl, rfl⟩ := hp9
  refine v_r1 ?_
  refine b_if_eq h0 d_Mo_goOn_72 rfl (fun h72 => ?_) (fun h72 => absurd h72 (by unfold kdB; rw [hx]; decide))
  refine v_iload h0 d_Mo_goOn_96 1 rfl ?_
  refine v_callS h0 hC (sR_N0 g) (av := [.int (s k)]) (rest := []) (m_Mo_isLocal (kl K) g hI _ _) wd_567 wd_565 wd_566 wd_6 hd_Mo_isLocal (by omega) (by decide) rfl rfl (Nat.le_of_ble_eq_true rfl) d_Mo_goOn_98 (fun r9 M9 hp9 => ?_)
  obtain ⟨rfl, rfl⟩ := hp9
  refine v_r1 ?_
  refine b_if_eq h0 d_Mo_goOn_101 rfl (fun h101 => ?_) (fun h101 => absurd h101 (by unfold kdB; rw [hx]; decide))
  refine v_iload h0 d_Mo_goOn_129 0 rfl ?_
  refine v_if_ne h0 d_Mo_goOn_131 rfl (fun h131 => ?_) (fun h131 => absurd h131 (by decide))
  refine v_iload h0 d_Mo_goOn_165 1 rfl ?_
  refine v_bipush h0 d_Mo_goOn_167 (v := nI 126) (by decide) ?_
  refine v_icmp_ne h0 d_Mo_goOn_169 rfl (fun h169 => ?_) (fun h169 => absurd h169 (fun z => absurd (hx.symm.trans ((kd_1 _).mpr z)) (by decide)))
  refine v_iload h0 d_Mo_goOn_185 1 rfl ?_
  refine v_bipush h0 d_Mo_goOn_187 (v := nI 63) (by decide) ?_
  refine v_icmp_ne h0 d_Mo_goOn_189 rfl (fun h189 => ?_) (fun h189 => absurd h189 (fun z => absurd (hx.symm.trans ((kd_3 _).mpr z)) (by decide)))
  refine v_iload h0 d_Mo_goOn_204 1 rfl ?_
  refine v_bipush h0 d_Mo_goOn_206 (v := nI 36) (by decide) ?_
  refine v_icmp_ne h0 d_Mo_goOn_208 rfl (fun h208 => ?_) (fun h208 => absurd h208 (fun z => absurd (hx.symm.trans ((kd_4 _).mpr z)) (by decide)))
  refine v_iload h0 d_Mo_goOn_223 1 rfl ?_
  refine v_bipush h0 d_Mo_goOn_225 (v := nI 33) (by decide) ?_
  refine v_icmp_ne h0 d_Mo_goOn_227 rfl (fun h227 => ?_) (fun h227 => absurd h227 (fun z => absurd (hx.symm.trans ((kd_5 _).mpr z)) (by decide)))
  refine v_iload h0 d_Mo_goOn_241 1 rfl ?_
  refine v_bipush h0 d_Mo_goOn_243 (v := nI 35) (by decide) ?_
  refine v_icmp_ne h0 d_Mo_goOn_245 rfl (fun h245 => absurd h245 (fun z => z ((kd_6 _).mp hx))) (fun h245 => ?_)
  refine v_aload_n h0 d_Mo_goOn_248 5 rfl ?_
  refine v_iload_n h0 d_Mo_goOn_249 4 rfl ?_
  refine v_iload_n h0 d_Mo_goOn_250 3 rfl ?_
  refine v_iload_n h0 d_Mo_goOn_251 2 rfl ?_
  refine v_iload h0 d_Mo_goOn_252 0 rfl ?_
  refine v_callV h0 hC (sR_N0 g) 0 (show 0 < 22 by omega) (show enR g 0 _ = _ from rfl) rfl (av := [.int (nI o), .int (nI c), .int (nI k), .int (nI 2)]) (rest := []) ((m_Mo_match_2 (kl K) g hI _ (by rw [up2_n _ _ (by omega)]; exact ho) ho3)) wd_703 wd_700 wd_702 ws_61 wd_6 hd_Mo_match (by omega) (by decide) rfl rfl (Nat.le_of_ble_eq_true rfl) d_Mo_goOn_254 (fun r9 M9 hp9 => ?_)
  obtain ⟨rfl, rfl⟩ := hp9
  refine v_r0 ?_
  refine v_goto h0 d_Mo_goOn_257 rfl ?_
  exact v_vret h0 hC hR d_Mo_goOn_348 (⟨rfl, by rw [up2_n M _ (by omega)]⟩)
set_option maxHeartbeats 4000000 in
theorem m_Mo_goOn_61a (l : Launch) (g : Gd) (hI : sI (sR g)) (M : Me) {s : Nat → Int32} {c n k o : Nat} (hc : c < 10) (hT : TR M c s n) (hk : k < n) (ho : M 0 25 = nI (o + 1)) (ho3 : o < 300) (h17 : M 17 o = nI c) (h18 : M 18 o = nI k) (hx : kd (s k) = 6) (h19 : M 19 o = nI 1) {fu : Nat} (hf : M 0 28 = nI fu) (hfu : fu ≤ 2000) {e1 : Nat} (r1 : M 5 (24 * c + k + 1) = nI e1) (l1 : k + 1 < 24) (l2 : e1 ≤ 24) {e2 : Nat} (l3 : e1 < n) (r2 : M 5 (24 * c + e1 + 1) = nI e2) (l4 : e2 < n) (l5 : e1 + 1 < 24) (hv : M 0 29 = s e1 - 48) : CR l g y_Mo_goOn c_Mo_goOn 6 none 3 [.ref (ga g 0)] M (fun r M' => r = none ∧ M' = enF (up2 M 19 o (nI 2)) c (e1 + 1) (o + 1) fu) := by
  refine Ct.of hI (sR_N0 g) rfl (Nat.le_of_ble_eq_true rfl) (fun K h0 hC hR hkl hn => ?_)
  have hC : Cx (sR g) K gC_Mo _ := hC
  show V K (wp (sR g)) M 0 [(0, .ref (ga g 0))] []
  refine v_aload_n h0 d_Mo_goOn_0 0 rfl ?_
  refine g_Mo_open_ h0 hC wd_473 d_Mo_goOn_1 ?_
  have hn24 := hT.2.1
  refine v_int (nI (o + 1)) (ho) ?_
  refine v_iconst h0 d_Mo_goOn_4 (v := nI 1) (by decide) ?_
  refine v_isub h0 d_Mo_goOn_5 ?_
  refine v_int (nI o) (pred1 o) ?_
  refine v_istore_n h0 d_Mo_goOn_6 (lv' := [(1, .int (nI o)), (0, .ref (ga g 0))]) (lt_kn hn (by decide)) rfl ?_
  refine v_aload_n h0 d_Mo_goOn_7 1 rfl ?_
  refine g_Mo_cellAt_ h0 hC wd_469 d_Mo_goOn_8 ?_
  refine v_iload_n h0 d_Mo_goOn_11 0 rfl ?_
  refine a_Mo_cellAt_ h0 hC o (rfl) (by omega) d_Mo_goOn_12 ?_
  refine v_int (nI c) (h17) ?_
  refine v_istore_n h0 d_Mo_goOn_13 (lv' := [(2, .int (nI c)), (1, .int (nI o)), (0, .ref (ga g 0))]) (lt_kn hn (by decide)) rfl ?_
  refine v_aload_n h0 d_Mo_goOn_14 2 rfl ?_
  refine g_Mo_at_ h0 hC wd_470 d_Mo_goOn_15 ?_
  refine v_iload_n h0 d_Mo_goOn_18 1 rfl ?_
  refine a_Mo_at_ h0 hC o (rfl) (by omega) d_Mo_goOn_19 ?_
  refine v_int (nI k) (h18) ?_
  refine v_istore_n h0 d_Mo_goOn_20 (lv' := [(3, .int (nI k)), (2, .int (nI c)), (1, .int (nI o)), (0, .ref (ga g 0))]) (lt_kn hn (by decide)) rfl ?_
  refine v_aload_n h0 d_Mo_goOn_21 3 rfl ?_
  refine v_iload_n h0 d_Mo_goOn_22 1 rfl ?_
  refine v_iload_n h0 d_Mo_goOn_23 0 rfl ?_
  refine v_callV h0 hC (sR_N0 g) 0 (show 0 < 22 by omega) (show enR g 0 _ = _ from rfl) rfl (av := [.int (nI c), .int (nI k)]) (rest := []) (m_Mo_charAt (kl K) g hI M hc (by omega) hT) wd_564 wd_561 wd_563 ws_32 wd_6 hd_Mo_charAt (by omega) (by decide) rfl rfl (Nat.le_of_ble_eq_true rfl) d_Mo_goOn_24 (fun r9 M9 hp9 => ?_)
  obtain ⟨rfl, rfl⟩ := hp9
  refine v_r1 ?_
  refine v_int (s k) (if_pos hk) ?_
  refine v_istore h0 d_Mo_goOn_27 (lv' := [(4, .int (s k)), (3, .int (nI k)), (2, .int (nI c)), (1, .int (nI o)), (0, .ref (ga g 0))]) (lt_kn hn (by decide)) rfl ?_
  refine v_aload_n h0 d_Mo_goOn_29 4 rfl ?_
  refine g_Mo_stage_ h0 hC wd_471 d_Mo_goOn_30 ?_
  refine v_iload_n h0 d_Mo_goOn_33 3 rfl ?_
  refine a_Mo_stage_ h0 hC o (rfl) (by omega) d_Mo_goOn_34 ?_
  refine v_int (nI 1) (h19) ?_
  refine v_istore h0 d_Mo_goOn_35 (lv' := [(5, .int (nI 1)), (4, .int (s k)), (3, .int (nI k)), (2, .int (nI c)), (1, .int (nI o)), (0, .ref (ga g 0))]) (lt_kn hn (by decide)) rfl ?_
  refine v_aload_n h0 d_Mo_goOn_37 5 rfl ?_
  refine g_Mo_stage_ h0 hC wd_471 d_Mo_goOn_38 ?_
  refine v_iload_n h0 d_Mo_goOn_41 4 rfl ?_
  refine v_iload h0 d_Mo_goOn_42 0 rfl ?_
  refine v_iconst h0 d_Mo_goOn_44 (v := nI 1) (by decide) ?_
  refine v_iadd h0 d_Mo_goOn_45 ?_
  refine v_int (nI (1 + 1)) (nI_add 1 1) ?_
  refine v_int (nI 2) (rfl) ?_
  refine s_Mo_stage_ h0 hC o (rfl) (z := nI 2) (rfl) (by omega) d_Mo_goOn_46 ?_
  refine v_iload h0 d_Mo_goOn_47 1 rfl ?_
  refine v_callS h0 hC (sR_N0 g) (av := [.int (s k)]) (rest := []) (m_Mo_isDigit (kl K) g hI _ _) wd_574 wd_572 wd_573 wd_6 hd_Mo_isDigit (by omega) (by decide) rfl rfl (Nat.le_of_ble_eq_true rfl) d_Mo_goOn_49 (fun r9 M9 hp9 => ?_)
  obtain ⟨rfl, rfl⟩ := hp9
  refine v_r1 ?_
  refine b_if_eq h0 d_Mo_goOn_52 rfl (fun h52 => ?_) (fun h52 => absurd h52 (by unfold kdB; rw [hx]; decide))
  refine v_iload h0 d_Mo_goOn_67 1 rfl ?_
  refine v_callS h0 hC (sR_N0 g) (av := [.int (s k)]) (rest := []) (m_Mo_isName (kl K) g hI _ _) wd_581 wd_579 wd_580 wd_6 hd_Mo_isName (by omega) (by decide) rfl rfl (Nat.le_of_ble_eq_true rfl) d_Mo_goOn_69 (fun r9 M9 hp9 => ?_)
  obtain ⟨rfl, rfl⟩ := hp9
  refine v_r1 ?_
  refine b_if_eq h0 d_Mo_goOn_72 rfl (fun h72 => ?_) (fun h72 => absurd h72 (by unfold kdB; rw [hx]; decide))
  refine v_iload h0 d_Mo_goOn_96 1 rfl ?_
  refine v_callS h0 hC (sR_N0 g) (av := [.int (s k)]) (rest := []) (m_Mo_isLocal (kl K) g hI _ _) wd_567 wd_565 wd_566 wd_6 hd_Mo_isLocal (by omega) (by decide) rfl rfl (Nat.le_of_ble_eq_true rfl) d_Mo_goOn_98 (fun r9 M9 hp9 => ?_)
  obtain ⟨rfl, rfl⟩ := hp9
  refine v_r1 ?_
  refine b_if_eq h0 d_Mo_goOn_101 rfl (fun h101 => ?_) (fun h101 => absurd h101 (by unfold kdB; rw [hx]; decide))
  refine v_iload h0 d_Mo_goOn_129 0 rfl ?_
  refine v_if_ne h0 d_Mo_goOn_131 rfl (fun h131 => ?_) (fun h131 => absurd h131 (by decide))
  refine v_iload h0 d_Mo_goOn_165 1 rfl ?_
  refine v_bipush h0 d_Mo_goOn_167 (v := nI 126) (by decide) ?_
  refine v_icmp_ne h0 d_Mo_goOn_169 rfl (fun h169 => ?_) (fun h169 => absurd h169 (fun z => absurd (hx.symm.trans ((kd_1 _).mpr z)) (by decide)))
  refine v_iload h0 d_Mo_goOn_185 1 rfl ?_
  refine v_bipush h0 d_Mo_goOn_187 (v := nI 63) (by decide) ?_
  refine v_icmp_ne h0 d_Mo_goOn_189 rfl (fun h189 => ?_) (fun h189 => absurd h189 (fun z => absurd (hx.symm.trans ((kd_3 _).mpr z)) (by decide)))
  refine v_iload h0 d_Mo_goOn_204 1 rfl ?_
  refine v_bipush h0 d_Mo_goOn_206 (v := nI 36) (by decide) ?_
  refine v_icmp_ne h0 d_Mo_goOn_208 rfl (fun h208 => ?_) (fun h208 => absurd h208 (fun z => absurd (hx.symm.trans ((kd_4 _).mpr z)) (by decide)))
  refine v_iload h0 d_Mo_goOn_223 1 rfl ?_
  refine v_bipush h0 d_Mo_goOn_225 (v := nI 33) (by decide) ?_
  refine v_icmp_ne h0 d_Mo_goOn_227 rfl (fun h227 => ?_) (fun h227 => absurd h227 (fun z => absurd (hx.symm.trans ((kd_5 _).mpr z)) (by decide)))
  refine v_iload h0 d_Mo_goOn_241 1 rfl ?_
  refine v_bipush h0 d_Mo_goOn_243 (v := nI 35) (by decide) ?_
  refine v_icmp_ne h0 d_Mo_goOn_245 rfl (fun h245 => absurd h245 (fun z => z ((kd_6 _).mp hx))) (fun h245 => ?_)
  refine v_aload_n h0 d_Mo_goOn_248 5 rfl ?_
  refine v_iload_n h0 d_Mo_goOn_249 4 rfl ?_
  refine v_iload_n h0 d_Mo_goOn_250 3 rfl ?_
  refine v_iload_n h0 d_Mo_goOn_251 2 rfl ?_
  refine v_iload h0 d_Mo_goOn_252 0 rfl ?_
  refine v_callV h0 hC (sR_N0 g) 0 (show 0 < 22 by omega) (show enR g 0 _ = _ from rfl) rfl (av := [.int (nI o), .int (nI c), .int (nI k), .int (nI 1)]) (rest := []) (m_Mo_match_1a (kl K) g hI _ hc (show TR (up2 M 19 o (nI 2)) c s n from ⟨by rw [up2_n _ _ (by omega)]; exact hT.1, hT.2.1, fun j hj => by rw [up2_n _ _ (by omega)]; exact hT.2.2.1 j hj, hT.2.2.2⟩) (by rw [up2_n _ _ (by omega)]; exact ho) ho3 (by rw [up2_n _ _ (by omega)]; exact hf) hfu (by rw [up2_n _ _ (by omega)]; exact r1) l1 l2 l3 (by rw [up2_n _ _ (by omega)]; exact r2) l4 l5 (by rw [up2_n _ _ (by omega)]; exact hv)) wd_703 wd_700 wd_702 ws_61 wd_6 hd_Mo_match (by omega) (by decide) rfl rfl (Nat.le_of_ble_eq_true rfl) d_Mo_goOn_254 (fun r9 M9 hp9 => ?_)
  obtain ⟨rfl, rfl⟩ := hp9
  refine v_r0 ?_
  refine v_goto h0 d_Mo_goOn_257 rfl ?_
  exact v_vret h0 hC hR d_Mo_goOn_348 (⟨rfl, rfl⟩)
set_option maxHeartbeats 4000000 in
theorem m_Mo_goOn_61b (l : Launch) (g : Gd) (hI : sI (sR g)) (M : Me) {s : Nat → Int32} {c n k o : Nat} (hc : c < 10) (hT : TR M c s n) (hk : k < n) (ho : M 0 25 = nI (o + 1)) (ho3 : o < 300) (h17 : M 17 o = nI c) (h18 : M 18 o = nI k) (hx : kd (s k) = 6) (h19 : M 19 o = nI 1) {fu : Nat} (hf : M 0 28 = nI fu) (hfu : fu ≤ 2000) {e1 : Nat} (r1 : M 5 (24 * c + k + 1) = nI e1) (l1 : k + 1 < 24) (l2 : e1 ≤ 24) {e2 : Nat} (l3 : e1 < n) (r2 : M 5 (24 * c + e1 + 1) = nI e2) (l4 : e2 < n) (l5 : e1 + 1 < 24) (hv : ¬ M 0 29 = s e1 - 48) (hw : M 0 29 = s e2 - 48) : CR l g y_Mo_goOn c_Mo_goOn 6 none 3 [.ref (ga g 0)] M (fun r M' => r = none ∧ M' = enF (up2 M 19 o (nI 2)) c (e2 + 1) (o + 1) fu) := by
  refine Ct.of hI (sR_N0 g) rfl (Nat.le_of_ble_eq_true rfl) (fun K h0 hC hR hkl hn => ?_)
  have hC : Cx (sR g) K gC_Mo _ := hC
  show V K (wp (sR g)) M 0 [(0, .ref (ga g 0))] []
  refine v_aload_n h0 d_Mo_goOn_0 0 rfl ?_
  refine g_Mo_open_ h0 hC wd_473 d_Mo_goOn_1 ?_
  have hn24 := hT.2.1
  refine v_int (nI (o + 1)) (ho) ?_
  refine v_iconst h0 d_Mo_goOn_4 (v := nI 1) (by decide) ?_
  refine v_isub h0 d_Mo_goOn_5 ?_
  refine v_int (nI o) (pred1 o) ?_
  refine v_istore_n h0 d_Mo_goOn_6 (lv' := [(1, .int (nI o)), (0, .ref (ga g 0))]) (lt_kn hn (by decide)) rfl ?_
  refine v_aload_n h0 d_Mo_goOn_7 1 rfl ?_
  refine g_Mo_cellAt_ h0 hC wd_469 d_Mo_goOn_8 ?_
  refine v_iload_n h0 d_Mo_goOn_11 0 rfl ?_
  refine a_Mo_cellAt_ h0 hC o (rfl) (by omega) d_Mo_goOn_12 ?_
  refine v_int (nI c) (h17) ?_
  refine v_istore_n h0 d_Mo_goOn_13 (lv' := [(2, .int (nI c)), (1, .int (nI o)), (0, .ref (ga g 0))]) (lt_kn hn (by decide)) rfl ?_
  refine v_aload_n h0 d_Mo_goOn_14 2 rfl ?_
  refine g_Mo_at_ h0 hC wd_470 d_Mo_goOn_15 ?_
  refine v_iload_n h0 d_Mo_goOn_18 1 rfl ?_
  refine a_Mo_at_ h0 hC o (rfl) (by omega) d_Mo_goOn_19 ?_
  refine v_int (nI k) (h18) ?_
  refine v_istore_n h0 d_Mo_goOn_20 (lv' := [(3, .int (nI k)), (2, .int (nI c)), (1, .int (nI o)), (0, .ref (ga g 0))]) (lt_kn hn (by decide)) rfl ?_
  refine v_aload_n h0 d_Mo_goOn_21 3 rfl ?_
  refine v_iload_n h0 d_Mo_goOn_22 1 rfl ?_
  refine v_iload_n h0 d_Mo_goOn_23 0 rfl ?_
  refine v_callV h0 hC (sR_N0 g) 0 (show 0 < 22 by omega) (show enR g 0 _ = _ from rfl) rfl (av := [.int (nI c), .int (nI k)]) (rest := []) (m_Mo_charAt (kl K) g hI M hc (by omega) hT) wd_564 wd_561 wd_563 ws_32 wd_6 hd_Mo_charAt (by omega) (by decide) rfl rfl (Nat.le_of_ble_eq_true rfl) d_Mo_goOn_24 (fun r9 M9 hp9 => ?_)
  obtain ⟨rfl, rfl⟩ := hp9
  refine v_r1 ?_
  refine v_int (s k) (if_pos hk) ?_
  refine v_istore h0 d_Mo_goOn_27 (lv' := [(4, .int (s k)), (3, .int (nI k)), (2, .int (nI c)), (1, .int (nI o)), (0, .ref (ga g 0))]) (lt_kn hn (by decide)) rfl ?_
  refine v_aload_n h0 d_Mo_goOn_29 4 rfl ?_
  refine g_Mo_stage_ h0 hC wd_471 d_Mo_goOn_30 ?_
  refine v_iload_n h0 d_Mo_goOn_33 3 rfl ?_
  refine a_Mo_stage_ h0 hC o (rfl) (by omega) d_Mo_goOn_34 ?_
  refine v_int (nI 1) (h19) ?_
  refine v_istore h0 d_Mo_goOn_35 (lv' := [(5, .int (nI 1)), (4, .int (s k)), (3, .int (nI k)), (2, .int (nI c)), (1, .int (nI o)), (0, .ref (ga g 0))]) (lt_kn hn (by decide)) rfl ?_
  refine v_aload_n h0 d_Mo_goOn_37 5 rfl ?_
  refine g_Mo_stage_ h0 hC wd_471 d_Mo_goOn_38 ?_
  refine v_iload_n h0 d_Mo_goOn_41 4 rfl ?_
  refine v_iload h0 d_Mo_goOn_42 0 rfl ?_
  refine v_iconst h0 d_Mo_goOn_44 (v := nI 1) (by decide) ?_
  refine v_iadd h0 d_Mo_goOn_45 ?_
  refine v_int (nI (1 + 1)) (nI_add 1 1) ?_
  refine v_int (nI 2) (rfl) ?_
  refine s_Mo_stage_ h0 hC o (rfl) (z := nI 2) (rfl) (by omega) d_Mo_goOn_46 ?_
  refine v_iload h0 d_Mo_goOn_47 1 rfl ?_
  refine v_callS h0 hC (sR_N0 g) (av := [.int (s k)]) (rest := []) (m_Mo_isDigit (kl K) g hI _ _) wd_574 wd_572 wd_573 wd_6 hd_Mo_isDigit (by omega) (by decide) rfl rfl (Nat.le_of_ble_eq_true rfl) d_Mo_goOn_49 (fun r9 M9 hp9 => ?_)
  obtain ⟨rfl, rfl⟩ := hp9
  refine v_r1 ?_
  refine b_if_eq h0 d_Mo_goOn_52 rfl (fun h52 => ?_) (fun h52 => absurd h52 (by unfold kdB; rw [hx]; decide))
  refine v_iload h0 d_Mo_goOn_67 1 rfl ?_
  refine v_callS h0 hC (sR_N0 g) (av := [.int (s k)]) (rest := []) (m_Mo_isName (kl K) g hI _ _) wd_581 wd_579 wd_580 wd_6 hd_Mo_isName (by omega) (by decide) rfl rfl (Nat.le_of_ble_eq_true rfl) d_Mo_goOn_69 (fun r9 M9 hp9 => ?_)
  obtain ⟨rfl, rfl⟩ := hp9
  refine v_r1 ?_
  refine b_if_eq h0 d_Mo_goOn_72 rfl (fun h72 => ?_) (fun h72 => absurd h72 (by unfold kdB; rw [hx]; decide))
  refine v_iload h0 d_Mo_goOn_96 1 rfl ?_
  refine v_callS h0 hC (sR_N0 g) (av := [.int (s k)]) (rest := []) (m_Mo_isLocal (kl K) g hI _ _) wd_567 wd_565 wd_566 wd_6 hd_Mo_isLocal (by omega) (by decide) rfl rfl (Nat.le_of_ble_eq_true rfl) d_Mo_goOn_98 (fun r9 M9 hp9 => ?_)
  obtain ⟨rfl, rfl⟩ := hp9
  refine v_r1 ?_
  refine b_if_eq h0 d_Mo_goOn_101 rfl (fun h101 => ?_) (fun h101 => absurd h101 (by unfold kdB; rw [hx]; decide))
  refine v_iload h0 d_Mo_goOn_129 0 rfl ?_
  refine v_if_ne h0 d_Mo_goOn_131 rfl (fun h131 => ?_) (fun h131 => absurd h131 (by decide))
  refine v_iload h0 d_Mo_goOn_165 1 rfl ?_
  refine v_bipush h0 d_Mo_goOn_167 (v := nI 126) (by decide) ?_
  refine v_icmp_ne h0 d_Mo_goOn_169 rfl (fun h169 => ?_) (fun h169 => absurd h169 (fun z => absurd (hx.symm.trans ((kd_1 _).mpr z)) (by decide)))
  refine v_iload h0 d_Mo_goOn_185 1 rfl ?_
  refine v_bipush h0 d_Mo_goOn_187 (v := nI 63) (by decide) ?_
  refine v_icmp_ne h0 d_Mo_goOn_189 rfl (fun h189 => ?_) (fun h189 => absurd h189 (fun z => absurd (hx.symm.trans ((kd_3 _).mpr z)) (by decide)))
  refine v_iload h0 d_Mo_goOn_204 1 rfl ?_
  refine v_bipush h0 d_Mo_goOn_206 (v := nI 36) (by decide) ?_
  refine v_icmp_ne h0 d_Mo_goOn_208 rfl (fun h208 => ?_) (fun h208 => absurd h208 (fun z => absurd (hx.symm.trans ((kd_4 _).mpr z)) (by decide)))
  refine v_iload h0 d_Mo_goOn_223 1 rfl ?_
  refine v_bipush h0 d_Mo_goOn_225 (v := nI 33) (by decide) ?_
  refine v_icmp_ne h0 d_Mo_goOn_227 rfl (fun h227 => ?_) (fun h227 => absurd h227 (fun z => absurd (hx.symm.trans ((kd_5 _).mpr z)) (by decide)))
  refine v_iload h0 d_Mo_goOn_241 1 rfl ?_
  refine v_bipush h0 d_Mo_goOn_243 (v := nI 35) (by decide) ?_
  refine v_icmp_ne h0 d_Mo_goOn_245 rfl (fun h245 => absurd h245 (fun z => z ((kd_6 _).mp hx))) (fun h245 => ?_)
  refine v_aload_n h0 d_Mo_goOn_248 5 rfl ?_
  refine v_iload_n h0 d_Mo_goOn_249 4 rfl ?_
  refine v_iload_n h0 d_Mo_goOn_250 3 rfl ?_
  refine v_iload_n h0 d_Mo_goOn_251 2 rfl ?_
  refine v_iload h0 d_Mo_goOn_252 0 rfl ?_
  refine v_callV h0 hC (sR_N0 g) 0 (show 0 < 22 by omega) (show enR g 0 _ = _ from rfl) rfl (av := [.int (nI o), .int (nI c), .int (nI k), .int (nI 1)]) (rest := []) (m_Mo_match_1b (kl K) g hI _ hc (show TR (up2 M 19 o (nI 2)) c s n from ⟨by rw [up2_n _ _ (by omega)]; exact hT.1, hT.2.1, fun j hj => by rw [up2_n _ _ (by omega)]; exact hT.2.2.1 j hj, hT.2.2.2⟩) (by rw [up2_n _ _ (by omega)]; exact ho) ho3 (by rw [up2_n _ _ (by omega)]; exact hf) hfu (by rw [up2_n _ _ (by omega)]; exact r1) l1 l2 l3 (by rw [up2_n _ _ (by omega)]; exact r2) l4 l5 (by rw [up2_n _ _ (by omega)]; exact hv) (by rw [up2_n _ _ (by omega)]; exact hw)) wd_703 wd_700 wd_702 ws_61 wd_6 hd_Mo_match (by omega) (by decide) rfl rfl (Nat.le_of_ble_eq_true rfl) d_Mo_goOn_254 (fun r9 M9 hp9 => ?_)
  obtain ⟨rfl, rfl⟩ := hp9
  refine v_r0 ?_
  refine v_goto h0 d_Mo_goOn_257 rfl ?_
  exact v_vret h0 hC hR d_Mo_goOn_348 (⟨rfl, rfl⟩)
set_option maxHeartbeats 4000000 in
theorem m_Mo_goOn_61c (l : Launch) (g : Gd) (hI : sI (sR g)) (M : Me) {s : Nat → Int32} {c n k o : Nat} (hc : c < 10) (hT : TR M c s n) (hk : k < n) (ho : M 0 25 = nI (o + 1)) (ho3 : o < 300) (h17 : M 17 o = nI c) (h18 : M 18 o = nI k) (hx : kd (s k) = 6) (h19 : M 19 o = nI 1) {fu : Nat} (hf : M 0 28 = nI fu) (hfu : fu ≤ 2000) {e1 : Nat} (r1 : M 5 (24 * c + k + 1) = nI e1) (l1 : k + 1 < 24) (l2 : e1 ≤ 24) {e2 : Nat} (l3 : e1 < n) (r2 : M 5 (24 * c + e1 + 1) = nI e2) (l4 : e2 < n) (l5 : e1 + 1 < 24) (hv : ¬ M 0 29 = s e1 - 48) (hw : ¬ M 0 29 = s e2 - 48) : CR l g y_Mo_goOn c_Mo_goOn 6 none 3 [.ref (ga g 0)] M (fun r M' => r = none ∧ M' = up2 (up2 M 19 o (nI 2)) 0 30 (nI 8)) := by
  refine Ct.of hI (sR_N0 g) rfl (Nat.le_of_ble_eq_true rfl) (fun K h0 hC hR hkl hn => ?_)
  have hC : Cx (sR g) K gC_Mo _ := hC
  show V K (wp (sR g)) M 0 [(0, .ref (ga g 0))] []
  refine v_aload_n h0 d_Mo_goOn_0 0 rfl ?_
  refine g_Mo_open_ h0 hC wd_473 d_Mo_goOn_1 ?_
  have hn24 := hT.2.1
  refine v_int (nI (o + 1)) (ho) ?_
  refine v_iconst h0 d_Mo_goOn_4 (v := nI 1) (by decide) ?_
  refine v_isub h0 d_Mo_goOn_5 ?_
  refine v_int (nI o) (pred1 o) ?_
  refine v_istore_n h0 d_Mo_goOn_6 (lv' := [(1, .int (nI o)), (0, .ref (ga g 0))]) (lt_kn hn (by decide)) rfl ?_
  refine v_aload_n h0 d_Mo_goOn_7 1 rfl ?_
  refine g_Mo_cellAt_ h0 hC wd_469 d_Mo_goOn_8 ?_
  refine v_iload_n h0 d_Mo_goOn_11 0 rfl ?_
  refine a_Mo_cellAt_ h0 hC o (rfl) (by omega) d_Mo_goOn_12 ?_
  refine v_int (nI c) (h17) ?_
  refine v_istore_n h0 d_Mo_goOn_13 (lv' := [(2, .int (nI c)), (1, .int (nI o)), (0, .ref (ga g 0))]) (lt_kn hn (by decide)) rfl ?_
  refine v_aload_n h0 d_Mo_goOn_14 2 rfl ?_
  refine g_Mo_at_ h0 hC wd_470 d_Mo_goOn_15 ?_
  refine v_iload_n h0 d_Mo_goOn_18 1 rfl ?_
  refine a_Mo_at_ h0 hC o (rfl) (by omega) d_Mo_goOn_19 ?_
  refine v_int (nI k) (h18) ?_
  refine v_istore_n h0 d_Mo_goOn_20 (lv' := [(3, .int (nI k)), (2, .int (nI c)), (1, .int (nI o)), (0, .ref (ga g 0))]) (lt_kn hn (by decide)) rfl ?_
  refine v_aload_n h0 d_Mo_goOn_21 3 rfl ?_
  refine v_iload_n h0 d_Mo_goOn_22 1 rfl ?_
  refine v_iload_n h0 d_Mo_goOn_23 0 rfl ?_
  refine v_callV h0 hC (sR_N0 g) 0 (show 0 < 22 by omega) (show enR g 0 _ = _ from rfl) rfl (av := [.int (nI c), .int (nI k)]) (rest := []) (m_Mo_charAt (kl K) g hI M hc (by omega) hT) wd_564 wd_561 wd_563 ws_32 wd_6 hd_Mo_charAt (by omega) (by decide) rfl rfl (Nat.le_of_ble_eq_true rfl) d_Mo_goOn_24 (fun r9 M9 hp9 => ?_)
  obtain ⟨rfl, rfl⟩ := hp9
  refine v_r1 ?_
  refine v_int (s k) (if_pos hk) ?_
  refine v_istore h0 d_Mo_goOn_27 (lv' := [(4, .int (s k)), (3, .int (nI k)), (2, .int (nI c)), (1, .int (nI o)), (0, .ref (ga g 0))]) (lt_kn hn (by decide)) rfl ?_
  refine v_aload_n h0 d_Mo_goOn_29 4 rfl ?_
  refine g_Mo_stage_ h0 hC wd_471 d_Mo_goOn_30 ?_
  refine v_iload_n h0 d_Mo_goOn_33 3 rfl ?_
  refine a_Mo_stage_ h0 hC o (rfl) (by omega) d_Mo_goOn_34 ?_
  refine v_int (nI 1) (h19) ?_
  refine v_istore h0 d_Mo_goOn_35 (lv' := [(5, .int (nI 1)), (4, .int (s k)), (3, .int (nI k)), (2, .int (nI c)), (1, .int (nI o)), (0, .ref (ga g 0))]) (lt_kn hn (by decide)) rfl ?_
  refine v_aload_n h0 d_Mo_goOn_37 5 rfl ?_
  refine g_Mo_stage_ h0 hC wd_471 d_Mo_goOn_38 ?_
  refine v_iload_n h0 d_Mo_goOn_41 4 rfl ?_
  refine v_iload h0 d_Mo_goOn_42 0 rfl ?_
  refine v_iconst h0 d_Mo_goOn_44 (v := nI 1) (by decide) ?_
  refine v_iadd h0 d_Mo_goOn_45 ?_
  refine v_int (nI (1 + 1)) (nI_add 1 1) ?_
  refine v_int (nI 2) (rfl) ?_
  refine s_Mo_stage_ h0 hC o (rfl) (z := nI 2) (rfl) (by omega) d_Mo_goOn_46 ?_
  refine v_iload h0 d_Mo_goOn_47 1 rfl ?_
  refine v_callS h0 hC (sR_N0 g) (av := [.int (s k)]) (rest := []) (m_Mo_isDigit (kl K) g hI _ _) wd_574 wd_572 wd_573 wd_6 hd_Mo_isDigit (by omega) (by decide) rfl rfl (Nat.le_of_ble_eq_true rfl) d_Mo_goOn_49 (fun r9 M9 hp9 => ?_)
  obtain ⟨rfl, rfl⟩ := hp9
  refine v_r1 ?_
  refine b_if_eq h0 d_Mo_goOn_52 rfl (fun h52 => ?_) (fun h52 => absurd h52 (by unfold kdB; rw [hx]; decide))
  refine v_iload h0 d_Mo_goOn_67 1 rfl ?_
  refine v_callS h0 hC (sR_N0 g) (av := [.int (s k)]) (rest := []) (m_Mo_isName (kl K) g hI _ _) wd_581 wd_579 wd_580 wd_6 hd_Mo_isName (by omega) (by decide) rfl rfl (Nat.le_of_ble_eq_true rfl) d_Mo_goOn_69 (fun r9 M9 hp9 => ?_)
  obtain ⟨rfl, rfl⟩ := hp9
  refine v_r1 ?_
  refine b_if_eq h0 d_Mo_goOn_72 rfl (fun h72 => ?_) (fun h72 => absurd h72 (by unfold kdB; rw [hx]; decide))
  refine v_iload h0 d_Mo_goOn_96 1 rfl ?_
  refine v_callS h0 hC (sR_N0 g) (av := [.int (s k)]) (rest := []) (m_Mo_isLocal (kl K) g hI _ _) wd_567 wd_565 wd_566 wd_6 hd_Mo_isLocal (by omega) (by decide) rfl rfl (Nat.le_of_ble_eq_true rfl) d_Mo_goOn_98 (fun r9 M9 hp9 => ?_)
  obtain ⟨rfl, rfl⟩ := hp9
  refine v_r1 ?_
  refine b_if_eq h0 d_Mo_goOn_101 rfl (fun h101 => ?_) (fun h101 => absurd h101 (by unfold kdB; rw [hx]; decide))
  refine v_iload h0 d_Mo_goOn_129 0 rfl ?_
  refine v_if_ne h0 d_Mo_goOn_131 rfl (fun h131 => ?_) (fun h131 => absurd h131 (by decide))
  refine v_iload h0 d_Mo_goOn_165 1 rfl ?_
  refine v_bipush h0 d_Mo_goOn_167 (v := nI 126) (by decide) ?_
  refine v_icmp_ne h0 d_Mo_goOn_169 rfl (fun h169 => ?_) (fun h169 => absurd h169 (fun z => absurd (hx.symm.trans ((kd_1 _).mpr z)) (by decide)))
  refine v_iload h0 d_Mo_goOn_185 1 rfl ?_
  refine v_bipush h0 d_Mo_goOn_187 (v := nI 63) (by decide) ?_
  refine v_icmp_ne h0 d_Mo_goOn_189 rfl (fun h189 => ?_) (fun h189 => absurd h189 (fun z => absurd (hx.symm.trans ((kd_3 _).mpr z)) (by decide)))
  refine v_iload h0 d_Mo_goOn_204 1 rfl ?_
  refine v_bipush h0 d_Mo_goOn_206 (v := nI 36) (by decide) ?_
  refine v_icmp_ne h0 d_Mo_goOn_208 rfl (fun h208 => ?_) (fun h208 => absurd h208 (fun z => absurd (hx.symm.trans ((kd_4 _).mpr z)) (by decide)))
  refine v_iload h0 d_Mo_goOn_223 1 rfl ?_
  refine v_bipush h0 d_Mo_goOn_225 (v := nI 33) (by decide) ?_
  refine v_icmp_ne h0 d_Mo_goOn_227 rfl (fun h227 => ?_) (fun h227 => absurd h227 (fun z => absurd (hx.symm.trans ((kd_5 _).mpr z)) (by decide)))
  refine v_iload h0 d_Mo_goOn_241 1 rfl ?_
  refine v_bipush h0 d_Mo_goOn_243 (v := nI 35) (by decide) ?_
  refine v_icmp_ne h0 d_Mo_goOn_245 rfl (fun h245 => absurd h245 (fun z => z ((kd_6 _).mp hx))) (fun h245 => ?_)
  refine v_aload_n h0 d_Mo_goOn_248 5 rfl ?_
  refine v_iload_n h0 d_Mo_goOn_249 4 rfl ?_
  refine v_iload_n h0 d_Mo_goOn_250 3 rfl ?_
  refine v_iload_n h0 d_Mo_goOn_251 2 rfl ?_
  refine v_iload h0 d_Mo_goOn_252 0 rfl ?_
  refine v_callV h0 hC (sR_N0 g) 0 (show 0 < 22 by omega) (show enR g 0 _ = _ from rfl) rfl (av := [.int (nI o), .int (nI c), .int (nI k), .int (nI 1)]) (rest := []) (m_Mo_match_1c (kl K) g hI _ hc (show TR (up2 M 19 o (nI 2)) c s n from ⟨by rw [up2_n _ _ (by omega)]; exact hT.1, hT.2.1, fun j hj => by rw [up2_n _ _ (by omega)]; exact hT.2.2.1 j hj, hT.2.2.2⟩) (by rw [up2_n _ _ (by omega)]; exact ho) ho3 (by rw [up2_n _ _ (by omega)]; exact hf) hfu (by rw [up2_n _ _ (by omega)]; exact r1) l1 l2 l3 (by rw [up2_n _ _ (by omega)]; exact r2) l4 l5 (by rw [up2_n _ _ (by omega)]; exact hv) (by rw [up2_n _ _ (by omega)]; exact hw)) wd_703 wd_700 wd_702 ws_61 wd_6 hd_Mo_match (by omega) (by decide) rfl rfl (Nat.le_of_ble_eq_true rfl) d_Mo_goOn_254 (fun r9 M9 hp9 => ?_)
  obtain ⟨rfl, rfl⟩ := hp9
  refine v_r0 ?_
  refine v_goto h0 d_Mo_goOn_257 rfl ?_
  exact v_vret h0 hC hR d_Mo_goOn_348 (⟨rfl, rfl⟩)
