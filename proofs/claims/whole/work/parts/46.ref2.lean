/-! THE REFERENCE READS: one sign -/
def psh (M : Me) (t : Nat) (x : Int32) : Me := up2 (up2 M 14 t x) 0 17 (nI (t + 1))
def opM (M : Me) (t ne : Nat) : Me := up2 (psh M t (nI 3)) 0 16 (nI (ne + 1))
theorem fr_l {y : Int32} (h : kd y = 9) (q : Nat) : nI q + y - nI 107 = nI (q + lcI y) := by
  rw [← nI_add, ← (lc_of h).2]
  show nI q + y - 107 = nI q + (y - 107)
  rw [Int32.sub_eq_add_neg, Int32.sub_eq_add_neg, Int32.add_assoc]
theorem chR_k {s : Nat → Int32} {n k q : Nat} (h : kd (chR s n k) = q) (hq : q ≠ 0) : k < n ∧ chR s n k = s k := by
  unfold chR at h ⊢
  by_cases w : k < n
  · exact ⟨w, if_pos w⟩
  · rw [if_neg w] at h; exact absurd h (by rw [show kd 32 = 0 by decide]; exact fun z => hq z.symm)
set_option maxHeartbeats 4000000 in
theorem m_Mo_come (l : Launch) (g : Gd) (hI : sI (sR g)) (M : Me) {t : Nat} (x : Int32) (ht : M 0 17 = nI t) (h160 : t < 160) : CR l g y_Mo_come c_Mo_come 2 none 1 [.ref (ga g 0), .int x] M (fun r M' => r = none ∧ M' = psh M t x) := by
  refine Ct.of hI (sR_N0 g) rfl (Nat.le_of_ble_eq_true rfl) (fun K h0 hC hR hkl hn => ?_)
  have hC : Cx (sR g) K gC_Mo _ := hC
  show V K (wp (sR g)) M 0 [(0, .ref (ga g 0)), (1, .int x)] []
  refine v_aload_n h0 d_Mo_come_0 0 rfl ?_
  refine g_Mo_todo_ h0 hC wd_463 d_Mo_come_1 ?_
  refine v_aload_n h0 d_Mo_come_4 0 rfl ?_
  refine g_Mo_todoCount_ h0 hC wd_465 d_Mo_come_5 ?_
  refine v_int (nI t) (ht) ?_
  refine v_iload_n h0 d_Mo_come_8 1 rfl ?_
  refine s_Mo_todo_ h0 hC t (rfl) (z := x) (rfl) (by omega) d_Mo_come_9 ?_
  refine v_aload_n h0 d_Mo_come_10 0 rfl ?_
  refine v_dup h0 d_Mo_come_11 rfl ?_
  refine g_Mo_todoCount_ h0 hC wd_465 d_Mo_come_12 ?_
  refine v_int (nI t) (by rw [up2_n _ _ (by omega)]; exact ht) ?_
  refine v_iconst h0 d_Mo_come_15 (v := nI 1) (by decide) ?_
  refine v_iadd h0 d_Mo_come_16 ?_
  refine v_int (nI (t + 1)) (nI_add t 1) ?_
  refine p_Mo_todoCount_ h0 hC wd_465 d_Mo_come_17 ?_
  exact v_vret h0 hC hR d_Mo_come_20 (⟨rfl, rfl⟩)
theorem psh_c (M : Me) (t : Nat) (x : Int32) : up2 (up2 M 14 t x) 0 17 (nI (t + 1)) = psh M t x := rfl
set_option maxHeartbeats 4000000 in
theorem m_Mo_readOne_x (l : Launch) (g : Gd) (hI : sI (sR g)) (M : Me) {s : Nat → Int32} {c n k : Nat} (hc : c < 10) (hk : k < 100) (hT : TR M c s n) (hne : M 0 16 = nI 6) : CR l g y_Mo_readOne c_Mo_readOne 7 (some .int) 2 [.ref (ga g 0), .int (nI c), .int (nI k)] M (fun r M' => r = some (.int (-1)) ∧ M' = M) := by
  refine Ct.of hI (sR_N0 g) rfl (Nat.le_of_ble_eq_true rfl) (fun K h0 hC hR hkl hn => ?_)
  have hC : Cx (sR g) K gC_Mo _ := hC
  show V K (wp (sR g)) M 0 [(0, .ref (ga g 0)), (1, .int (nI c)), (2, .int (nI k))] []
  refine v_aload_n h0 d_Mo_readOne_0 0 rfl ?_
  refine v_iload_n h0 d_Mo_readOne_1 1 rfl ?_
  refine v_iload_n h0 d_Mo_readOne_2 2 rfl ?_
  refine v_callV h0 hC (sR_N0 g) 0 (show 0 < 22 by omega) (show enR g 0 _ = _ from rfl) rfl (av := [.int (nI c), .int (nI k)]) (rest := []) (m_Mo_charAt (kl K) g hI M hc (by omega) hT) wd_564 wd_561 wd_563 ws_32 wd_6 hd_Mo_charAt (by omega) (by decide) rfl rfl (Nat.le_of_ble_eq_true rfl) d_Mo_readOne_3 (fun r9 M9 hp9 => ?_)
  obtain ⟨rfl, rfl⟩ := hp9
  refine v_r1 ?_
  refine v_istore_n h0 d_Mo_readOne_6 (lv' := [(3, .int (chR s n k)), (0, .ref (ga g 0)), (1, .int (nI c)), (2, .int (nI k))]) (lt_kn hn (by decide)) rfl ?_
  refine v_aload_n h0 d_Mo_readOne_7 1 rfl ?_
  refine v_iload_n h0 d_Mo_readOne_8 2 rfl ?_
  refine v_iload_n h0 d_Mo_readOne_9 3 rfl ?_
  refine v_iconst h0 d_Mo_readOne_10 (v := nI 1) (by decide) ?_
  refine v_iadd h0 d_Mo_readOne_11 ?_
  refine v_int (nI (k + 1)) (nI_add k 1) ?_
  refine v_callV h0 hC (sR_N0 g) 0 (show 0 < 22 by omega) (show enR g 0 _ = _ from rfl) rfl (av := [.int (nI c), .int (nI (k + 1))]) (rest := []) (m_Mo_charAt (kl K) g hI M hc (by omega) hT) wd_564 wd_561 wd_563 ws_32 wd_6 hd_Mo_charAt (by omega) (by decide) rfl rfl (Nat.le_of_ble_eq_true rfl) d_Mo_readOne_12 (fun r9 M9 hp9 => ?_)
  obtain ⟨rfl, rfl⟩ := hp9
  refine v_r1 ?_
  refine v_istore h0 d_Mo_readOne_15 (lv' := [(4, .int (chR s n (k + 1))), (3, .int (chR s n k)), (0, .ref (ga g 0)), (1, .int (nI c)), (2, .int (nI k))]) (lt_kn hn (by decide)) rfl ?_
  refine v_aload_n h0 d_Mo_readOne_17 2 rfl ?_
  refine g_Mo_nested_ h0 hC wd_464 d_Mo_readOne_18 ?_
  refine v_int (nI 6) (hne) ?_
  refine v_iconst h0 d_Mo_readOne_21 (v := nI 5) (by decide) ?_
  refine n_icmp_le h0 (by omega) (by omega) d_Mo_readOne_22 rfl (fun h22 => absurd h22 (by omega)) (fun h22 => ?_)
  refine v_iconst h0 d_Mo_readOne_25 (v := -1) (by decide) ?_
  exact v_iret h0 hC hR d_Mo_readOne_26 (⟨rfl, rfl⟩)
set_option maxHeartbeats 4000000 in
theorem m_Mo_readOne_7 (l : Launch) (g : Gd) (hI : sI (sR g)) (M : Me) {s : Nat → Int32} {c n k t ne : Nat} (hc : c < 10) (hk : k < 100) (hT : TR M c s n) (ht : M 0 17 = nI t) (ht2 : t ≤ 100) (hne : M 0 16 = nI ne) (hne5 : ne ≤ 5) (hx : kd (chR s n k) = 7) : CR l g y_Mo_readOne c_Mo_readOne 7 (some .int) 2 [.ref (ga g 0), .int (nI c), .int (nI k)] M (fun r M' => r = some (.int (nI (k + 1))) ∧ M' = M) := by
  refine Ct.of hI (sR_N0 g) rfl (Nat.le_of_ble_eq_true rfl) (fun K h0 hC hR hkl hn => ?_)
  have hC : Cx (sR g) K gC_Mo _ := hC
  show V K (wp (sR g)) M 0 [(0, .ref (ga g 0)), (1, .int (nI c)), (2, .int (nI k))] []
  refine v_aload_n h0 d_Mo_readOne_0 0 rfl ?_
  refine v_iload_n h0 d_Mo_readOne_1 1 rfl ?_
  refine v_iload_n h0 d_Mo_readOne_2 2 rfl ?_
  refine v_callV h0 hC (sR_N0 g) 0 (show 0 < 22 by omega) (show enR g 0 _ = _ from rfl) rfl (av := [.int (nI c), .int (nI k)]) (rest := []) (m_Mo_charAt (kl K) g hI M hc (by omega) hT) wd_564 wd_561 wd_563 ws_32 wd_6 hd_Mo_charAt (by omega) (by decide) rfl rfl (Nat.le_of_ble_eq_true rfl) d_Mo_readOne_3 (fun r9 M9 hp9 => ?_)
  obtain ⟨rfl, rfl⟩ := hp9
  refine v_r1 ?_
  refine v_istore_n h0 d_Mo_readOne_6 (lv' := [(3, .int (chR s n k)), (0, .ref (ga g 0)), (1, .int (nI c)), (2, .int (nI k))]) (lt_kn hn (by decide)) rfl ?_
  refine v_aload_n h0 d_Mo_readOne_7 1 rfl ?_
  refine v_iload_n h0 d_Mo_readOne_8 2 rfl ?_
  refine v_iload_n h0 d_Mo_readOne_9 3 rfl ?_
  refine v_iconst h0 d_Mo_readOne_10 (v := nI 1) (by decide) ?_
  refine v_iadd h0 d_Mo_readOne_11 ?_
  refine v_int (nI (k + 1)) (nI_add k 1) ?_
  refine v_callV h0 hC (sR_N0 g) 0 (show 0 < 22 by omega) (show enR g 0 _ = _ from rfl) rfl (av := [.int (nI c), .int (nI (k + 1))]) (rest := []) (m_Mo_charAt (kl K) g hI M hc (by omega) hT) wd_564 wd_561 wd_563 ws_32 wd_6 hd_Mo_charAt (by omega) (by decide) rfl rfl (Nat.le_of_ble_eq_true rfl) d_Mo_readOne_12 (fun r9 M9 hp9 => ?_)
  obtain ⟨rfl, rfl⟩ := hp9
  refine v_r1 ?_
  refine v_istore h0 d_Mo_readOne_15 (lv' := [(4, .int (chR s n (k + 1))), (3, .int (chR s n k)), (0, .ref (ga g 0)), (1, .int (nI c)), (2, .int (nI k))]) (lt_kn hn (by decide)) rfl ?_
  refine v_aload_n h0 d_Mo_readOne_17 2 rfl ?_
  refine g_Mo_nested_ h0 hC wd_464 d_Mo_readOne_18 ?_
  refine v_int (nI ne) (hne) ?_
  refine v_iconst h0 d_Mo_readOne_21 (v := nI 5) (by decide) ?_
  refine n_icmp_le h0 (by omega) (by omega) d_Mo_readOne_22 rfl (fun h22 => ?_) (fun h22 => absurd h22 (by omega))
  refine v_iload_n h0 d_Mo_readOne_27 1 rfl ?_
  refine v_callS h0 hC (sR_N0 g) (av := [.int (chR s n k)]) (rest := []) (m_Mo_isDigit (kl K) g hI _ _) wd_574 wd_572 wd_573 wd_6 hd_Mo_isDigit (by omega) (by decide) rfl rfl (Nat.le_of_ble_eq_true rfl) d_Mo_readOne_28 (fun r9 M9 hp9 => ?_)
  obtain ⟨rfl, rfl⟩ := hp9
  refine v_r1 ?_
  refine b_if_eq h0 d_Mo_readOne_31 rfl (fun h31 => absurd h31 (by unfold kdB; rw [hx]; decide)) (fun h31 => ?_)
  refine v_iload_n h0 d_Mo_readOne_34 4 rfl ?_
  refine v_iconst h0 d_Mo_readOne_35 (v := nI 1) (by decide) ?_
  refine v_iadd h0 d_Mo_readOne_36 ?_
  refine v_int (nI (k + 1)) (nI_add k 1) ?_
  exact v_iret h0 hC hR d_Mo_readOne_37 (⟨rfl, rfl⟩)
set_option maxHeartbeats 4000000 in
theorem m_Mo_readOne_8 (l : Launch) (g : Gd) (hI : sI (sR g)) (M : Me) {s : Nat → Int32} {c n k t ne : Nat} (hc : c < 10) (hk : k < 100) (hT : TR M c s n) (ht : M 0 17 = nI t) (ht2 : t ≤ 100) (hne : M 0 16 = nI ne) (hne5 : ne ≤ 5) (hx : kd (chR s n k) = 8) : CR l g y_Mo_readOne c_Mo_readOne 7 (some .int) 2 [.ref (ga g 0), .int (nI c), .int (nI k)] M (fun r M' => r = some (.int (nI (k + 1))) ∧ M' = up2 (M) 8 c (M 8 c ||| (1 <<< (nI (nmI (chR s n k)) &&& 31)))) := by
  refine Ct.of hI (sR_N0 g) rfl (Nat.le_of_ble_eq_true rfl) (fun K h0 hC hR hkl hn => ?_)
  have hC : Cx (sR g) K gC_Mo _ := hC
  show V K (wp (sR g)) M 0 [(0, .ref (ga g 0)), (1, .int (nI c)), (2, .int (nI k))] []
  refine v_aload_n h0 d_Mo_readOne_0 0 rfl ?_
  refine v_iload_n h0 d_Mo_readOne_1 1 rfl ?_
  refine v_iload_n h0 d_Mo_readOne_2 2 rfl ?_
  refine v_callV h0 hC (sR_N0 g) 0 (show 0 < 22 by omega) (show enR g 0 _ = _ from rfl) rfl (av := [.int (nI c), .int (nI k)]) (rest := []) (m_Mo_charAt (kl K) g hI M hc (by omega) hT) wd_564 wd_561 wd_563 ws_32 wd_6 hd_Mo_charAt (by omega) (by decide) rfl rfl (Nat.le_of_ble_eq_true rfl) d_Mo_readOne_3 (fun r9 M9 hp9 => ?_)
  obtain ⟨rfl, rfl⟩ := hp9
  refine v_r1 ?_
  refine v_istore_n h0 d_Mo_readOne_6 (lv' := [(3, .int (chR s n k)), (0, .ref (ga g 0)), (1, .int (nI c)), (2, .int (nI k))]) (lt_kn hn (by decide)) rfl ?_
  refine v_aload_n h0 d_Mo_readOne_7 1 rfl ?_
  refine v_iload_n h0 d_Mo_readOne_8 2 rfl ?_
  refine v_iload_n h0 d_Mo_readOne_9 3 rfl ?_
  refine v_iconst h0 d_Mo_readOne_10 (v := nI 1) (by decide) ?_
  refine v_iadd h0 d_Mo_readOne_11 ?_
  refine v_int (nI (k + 1)) (nI_add k 1) ?_
  refine v_callV h0 hC (sR_N0 g) 0 (show 0 < 22 by omega) (show enR g 0 _ = _ from rfl) rfl (av := [.int (nI c), .int (nI (k + 1))]) (rest := []) (m_Mo_charAt (kl K) g hI M hc (by omega) hT) wd_564 wd_561 wd_563 ws_32 wd_6 hd_Mo_charAt (by omega) (by decide) rfl rfl (Nat.le_of_ble_eq_true rfl) d_Mo_readOne_12 (fun r9 M9 hp9 => ?_)
  obtain ⟨rfl, rfl⟩ := hp9
  refine v_r1 ?_
  refine v_istore h0 d_Mo_readOne_15 (lv' := [(4, .int (chR s n (k + 1))), (3, .int (chR s n k)), (0, .ref (ga g 0)), (1, .int (nI c)), (2, .int (nI k))]) (lt_kn hn (by decide)) rfl ?_
  refine v_aload_n h0 d_Mo_readOne_17 2 rfl ?_
  refine g_Mo_nested_ h0 hC wd_464 d_Mo_readOne_18 ?_
  refine v_int (nI ne) (hne) ?_
  refine v_iconst h0 d_Mo_readOne_21 (v := nI 5) (by decide) ?_
  refine n_icmp_le h0 (by omega) (by omega) d_Mo_readOne_22 rfl (fun h22 => ?_) (fun h22 => absurd h22 (by omega))
  refine v_iload_n h0 d_Mo_readOne_27 1 rfl ?_
  refine v_callS h0 hC (sR_N0 g) (av := [.int (chR s n k)]) (rest := []) (m_Mo_isDigit (kl K) g hI _ _) wd_574 wd_572 wd_573 wd_6 hd_Mo_isDigit (by omega) (by decide) rfl rfl (Nat.le_of_ble_eq_true rfl) d_Mo_readOne_28 (fun r9 M9 hp9 => ?_)
  obtain ⟨rfl, rfl⟩ := hp9
  refine v_r1 ?_
  refine b_if_eq h0 d_Mo_readOne_31 rfl (fun h31 => ?_) (fun h31 => absurd h31 (by unfold kdB; rw [hx]; decide))
  refine v_iload_n h0 d_Mo_readOne_38 1 rfl ?_
  refine v_callS h0 hC (sR_N0 g) (av := [.int (chR s n k)]) (rest := []) (m_Mo_isName (kl K) g hI _ _) wd_581 wd_579 wd_580 wd_6 hd_Mo_isName (by omega) (by decide) rfl rfl (Nat.le_of_ble_eq_true rfl) d_Mo_readOne_39 (fun r9 M9 hp9 => ?_)
  obtain ⟨rfl, rfl⟩ := hp9
  refine v_r1 ?_
  refine b_if_eq h0 d_Mo_readOne_42 rfl (fun h42 => absurd h42 (by unfold kdB; rw [hx]; decide)) (fun h42 => ?_)
  refine v_aload_n h0 d_Mo_readOne_45 2 rfl ?_
  refine g_Mo_used_ h0 hC wd_456 d_Mo_readOne_46 ?_
  refine v_iload_n h0 d_Mo_readOne_49 3 rfl ?_
  refine v_dup2 h0 d_Mo_readOne_50 rfl rfl ?_
  refine a_Mo_used_ h0 hC c (rfl) (by omega) d_Mo_readOne_51 ?_
  refine v_iconst h0 d_Mo_readOne_52 (v := 1) (by decide) ?_
  refine v_iload_n h0 d_Mo_readOne_53 1 rfl ?_
  refine v_bipush h0 d_Mo_readOne_54 (v := nI 97) (by decide) ?_
  refine v_isub h0 d_Mo_readOne_56 ?_
  refine v_int (nI (nmI (chR s n k))) ((nm_of hx).2) ?_
  refine v_ishl h0 d_Mo_readOne_57 ?_
  refine v_ior h0 d_Mo_readOne_58 ?_
  refine s_Mo_used_ h0 hC c (rfl) (z := (M 8 c) ||| (1 <<< ((nI (nmI (chR s n k))) &&& 31))) (rfl) (by omega) d_Mo_readOne_59 ?_
  refine v_iload_n h0 d_Mo_readOne_60 4 rfl ?_
  refine v_iconst h0 d_Mo_readOne_61 (v := nI 1) (by decide) ?_
  refine v_iadd h0 d_Mo_readOne_62 ?_
  refine v_int (nI (k + 1)) (nI_add k 1) ?_
  exact v_iret h0 hC hR d_Mo_readOne_63 (⟨rfl, rfl⟩)
set_option maxHeartbeats 4000000 in
theorem m_Mo_readOne_9t (l : Launch) (g : Gd) (hI : sI (sR g)) (M : Me) {s : Nat → Int32} {c n k t ne : Nat} (hc : c < 10) (hk : k < 100) (hT : TR M c s n) (ht : M 0 17 = nI t) (ht2 : t ≤ 100) (hne : M 0 16 = nI ne) (hne5 : ne ≤ 5) (hx : kd (chR s n k) = 9) {q : Nat} (hb : M 15 (lcI (chR s n k)) = nI q) (hq : 0 < q ∧ q < 100) : CR l g y_Mo_readOne c_Mo_readOne 7 (some .int) 2 [.ref (ga g 0), .int (nI c), .int (nI k)] M (fun r M' => r = some (.int (nI (k + 1))) ∧ M' = M) := by
  refine Ct.of hI (sR_N0 g) rfl (Nat.le_of_ble_eq_true rfl) (fun K h0 hC hR hkl hn => ?_)
  have hC : Cx (sR g) K gC_Mo _ := hC
  show V K (wp (sR g)) M 0 [(0, .ref (ga g 0)), (1, .int (nI c)), (2, .int (nI k))] []
  refine v_aload_n h0 d_Mo_readOne_0 0 rfl ?_
  refine v_iload_n h0 d_Mo_readOne_1 1 rfl ?_
  refine v_iload_n h0 d_Mo_readOne_2 2 rfl ?_
  refine v_callV h0 hC (sR_N0 g) 0 (show 0 < 22 by omega) (show enR g 0 _ = _ from rfl) rfl (av := [.int (nI c), .int (nI k)]) (rest := []) (m_Mo_charAt (kl K) g hI M hc (by omega) hT) wd_564 wd_561 wd_563 ws_32 wd_6 hd_Mo_charAt (by omega) (by decide) rfl rfl (Nat.le_of_ble_eq_true rfl) d_Mo_readOne_3 (fun r9 M9 hp9 => ?_)
  obtain ⟨rfl, rfl⟩ := hp9
  refine v_r1 ?_
  refine v_istore_n h0 d_Mo_readOne_6 (lv' := [(3, .int (chR s n k)), (0, .ref (ga g 0)), (1, .int (nI c)), (2, .int (nI k))]) (lt_kn hn (by decide)) rfl ?_
  refine v_aload_n h0 d_Mo_readOne_7 1 rfl ?_
  refine v_iload_n h0 d_Mo_readOne_8 2 rfl ?_
  refine v_iload_n h0 d_Mo_readOne_9 3 rfl ?_
  refine v_iconst h0 d_Mo_readOne_10 (v := nI 1) (by decide) ?_
  refine v_iadd h0 d_Mo_readOne_11 ?_
  refine v_int (nI (k + 1)) (nI_add k 1) ?_
  refine v_callV h0 hC (sR_N0 g) 0 (show 0 < 22 by omega) (show enR g 0 _ = _ from rfl) rfl (av := [.int (nI c), .int (nI (k + 1))]) (rest := []) (m_Mo_charAt (kl K) g hI M hc (by omega) hT) wd_564 wd_561 wd_563 ws_32 wd_6 hd_Mo_charAt (by omega) (by decide) rfl rfl (Nat.le_of_ble_eq_true rfl) d_Mo_readOne_12 (fun r9 M9 hp9 => ?_)
  obtain ⟨rfl, rfl⟩ := hp9
  refine v_r1 ?_
  refine v_istore h0 d_Mo_readOne_15 (lv' := [(4, .int (chR s n (k + 1))), (3, .int (chR s n k)), (0, .ref (ga g 0)), (1, .int (nI c)), (2, .int (nI k))]) (lt_kn hn (by decide)) rfl ?_
  refine v_aload_n h0 d_Mo_readOne_17 2 rfl ?_
  refine g_Mo_nested_ h0 hC wd_464 d_Mo_readOne_18 ?_
  refine v_int (nI ne) (hne) ?_
  refine v_iconst h0 d_Mo_readOne_21 (v := nI 5) (by decide) ?_
  refine n_icmp_le h0 (by omega) (by omega) d_Mo_readOne_22 rfl (fun h22 => ?_) (fun h22 => absurd h22 (by omega))
  refine v_iload_n h0 d_Mo_readOne_27 1 rfl ?_
  refine v_callS h0 hC (sR_N0 g) (av := [.int (chR s n k)]) (rest := []) (m_Mo_isDigit (kl K) g hI _ _) wd_574 wd_572 wd_573 wd_6 hd_Mo_isDigit (by omega) (by decide) rfl rfl (Nat.le_of_ble_eq_true rfl) d_Mo_readOne_28 (fun r9 M9 hp9 => ?_)
  obtain ⟨rfl, rfl⟩ := hp9
  refine v_r1 ?_
  refine b_if_eq h0 d_Mo_readOne_31 rfl (fun h31 => ?_) (fun h31 => absurd h31 (by unfold kdB; rw [hx]; decide))
  refine v_iload_n h0 d_Mo_readOne_38 1 rfl ?_
  refine v_callS h0 hC (sR_N0 g) (av := [.int (chR s n k)]) (rest := []) (m_Mo_isName (kl K) g hI _ _) wd_581 wd_579 wd_580 wd_6 hd_Mo_isName (by omega) (by decide) rfl rfl (Nat.le_of_ble_eq_true rfl) d_Mo_readOne_39 (fun r9 M9 hp9 => ?_)
  obtain ⟨rfl, rfl⟩ := hp9
  refine v_r1 ?_
  refine b_if_eq h0 d_Mo_readOne_42 rfl (fun h42 => ?_) (fun h42 => absurd h42 (by unfold kdB; rw [hx]; decide))
  refine v_iload_n h0 d_Mo_readOne_64 1 rfl ?_
  refine v_callS h0 hC (sR_N0 g) (av := [.int (chR s n k)]) (rest := []) (m_Mo_isLocal (kl K) g hI _ _) wd_567 wd_565 wd_566 wd_6 hd_Mo_isLocal (by omega) (by decide) rfl rfl (Nat.le_of_ble_eq_true rfl) d_Mo_readOne_65 (fun r9 M9 hp9 => ?_)
  obtain ⟨rfl, rfl⟩ := hp9
  refine v_r1 ?_
  refine b_if_eq h0 d_Mo_readOne_68 rfl (fun h68 => absurd h68 (by unfold kdB; rw [hx]; decide)) (fun h68 => ?_)
  refine v_aload_n h0 d_Mo_readOne_71 2 rfl ?_
  refine g_Mo_bound_ h0 hC wd_466 d_Mo_readOne_72 ?_
  refine v_iload_n h0 d_Mo_readOne_75 1 rfl ?_
  refine v_bipush h0 d_Mo_readOne_76 (v := nI 107) (by decide) ?_
  refine v_isub h0 d_Mo_readOne_78 ?_
  refine a_Mo_bound_ h0 hC (lcI (chR s n k)) ((lc_of hx).2) ((lc_of hx).1) d_Mo_readOne_79 ?_
  refine v_int (nI q) (hb) ?_
  refine v_if_le h0 d_Mo_readOne_80 rfl (fun h80 => absurd h80 (Int32.not_le.mpr ((nI_ltI (a := 0) (by omega) (by omega)).mpr hq.1))) (fun h80 => ?_)
  refine v_iload_n h0 d_Mo_readOne_83 4 rfl ?_
  refine v_iconst h0 d_Mo_readOne_84 (v := nI 1) (by decide) ?_
  refine v_iadd h0 d_Mo_readOne_85 ?_
  refine v_int (nI (k + 1)) (nI_add k 1) ?_
  refine v_goto h0 d_Mo_readOne_86 rfl ?_
  exact v_iret h0 hC hR d_Mo_readOne_90 (⟨rfl, rfl⟩)
set_option maxHeartbeats 4000000 in
theorem m_Mo_readOne_9f (l : Launch) (g : Gd) (hI : sI (sR g)) (M : Me) {s : Nat → Int32} {c n k t ne : Nat} (hc : c < 10) (hk : k < 100) (hT : TR M c s n) (ht : M 0 17 = nI t) (ht2 : t ≤ 100) (hne : M 0 16 = nI ne) (hne5 : ne ≤ 5) (hx : kd (chR s n k) = 9) (hb : M 15 (lcI (chR s n k)) = nI 0) : CR l g y_Mo_readOne c_Mo_readOne 7 (some .int) 2 [.ref (ga g 0), .int (nI c), .int (nI k)] M (fun r M' => r = some (.int (-1)) ∧ M' = M) := by
  refine Ct.of hI (sR_N0 g) rfl (Nat.le_of_ble_eq_true rfl) (fun K h0 hC hR hkl hn => ?_)
  have hC : Cx (sR g) K gC_Mo _ := hC
  show V K (wp (sR g)) M 0 [(0, .ref (ga g 0)), (1, .int (nI c)), (2, .int (nI k))] []
  refine v_aload_n h0 d_Mo_readOne_0 0 rfl ?_
  refine v_iload_n h0 d_Mo_readOne_1 1 rfl ?_
  refine v_iload_n h0 d_Mo_readOne_2 2 rfl ?_
  refine v_callV h0 hC (sR_N0 g) 0 (show 0 < 22 by omega) (show enR g 0 _ = _ from rfl) rfl (av := [.int (nI c), .int (nI k)]) (rest := []) (m_Mo_charAt (kl K) g hI M hc (by omega) hT) wd_564 wd_561 wd_563 ws_32 wd_6 hd_Mo_charAt (by omega) (by decide) rfl rfl (Nat.le_of_ble_eq_true rfl) d_Mo_readOne_3 (fun r9 M9 hp9 => ?_)
  obtain ⟨rfl, rfl⟩ := hp9
  refine v_r1 ?_
  refine v_istore_n h0 d_Mo_readOne_6 (lv' := [(3, .int (chR s n k)), (0, .ref (ga g 0)), (1, .int (nI c)), (2, .int (nI k))]) (lt_kn hn (by decide)) rfl ?_
  refine v_aload_n h0 d_Mo_readOne_7 1 rfl ?_
  refine v_iload_n h0 d_Mo_readOne_8 2 rfl ?_
  refine v_iload_n h0 d_Mo_readOne_9 3 rfl ?_
  refine v_iconst h0 d_Mo_readOne_10 (v := nI 1) (by decide) ?_
  refine v_iadd h0 d_Mo_readOne_11 ?_
  refine v_int (nI (k + 1)) (nI_add k 1) ?_
  refine v_callV h0 hC (sR_N0 g) 0 (show 0 < 22 by omega) (show enR g 0 _ = _ from rfl) rfl (av := [.int (nI c), .int (nI (k + 1))]) (rest := []) (m_Mo_charAt (kl K) g hI M hc (by omega) hT) wd_564 wd_561 wd_563 ws_32 wd_6 hd_Mo_charAt (by omega) (by decide) rfl rfl (Nat.le_of_ble_eq_true rfl) d_Mo_readOne_12 (fun r9 M9 hp9 => ?_)
  obtain ⟨rfl, rfl⟩ := hp9
  refine v_r1 ?_
  refine v_istore h0 d_Mo_readOne_15 (lv' := [(4, .int (chR s n (k + 1))), (3, .int (chR s n k)), (0, .ref (ga g 0)), (1, .int (nI c)), (2, .int (nI k))]) (lt_kn hn (by decide)) rfl ?_
  refine v_aload_n h0 d_Mo_readOne_17 2 rfl ?_
  refine g_Mo_nested_ h0 hC wd_464 d_Mo_readOne_18 ?_
  refine v_int (nI ne) (hne) ?_
  refine v_iconst h0 d_Mo_readOne_21 (v := nI 5) (by decide) ?_
  refine n_icmp_le h0 (by omega) (by omega) d_Mo_readOne_22 rfl (fun h22 => ?_) (fun h22 => absurd h22 (by omega))
  refine v_iload_n h0 d_Mo_readOne_27 1 rfl ?_
  refine v_callS h0 hC (sR_N0 g) (av := [.int (chR s n k)]) (rest := []) (m_Mo_isDigit (kl K) g hI _ _) wd_574 wd_572 wd_573 wd_6 hd_Mo_isDigit (by omega) (by decide) rfl rfl (Nat.le_of_ble_eq_true rfl) d_Mo_readOne_28 (fun r9 M9 hp9 => ?_)
  obtain ⟨rfl, rfl⟩ := hp9
  refine v_r1 ?_
  refine b_if_eq h0 d_Mo_readOne_31 rfl (fun h31 => ?_) (fun h31 => absurd h31 (by unfold kdB; rw [hx]; decide))
  refine v_iload_n h0 d_Mo_readOne_38 1 rfl ?_
  refine v_callS h0 hC (sR_N0 g) (av := [.int (chR s n k)]) (rest := []) (m_Mo_isName (kl K) g hI _ _) wd_581 wd_579 wd_580 wd_6 hd_Mo_isName (by omega) (by decide) rfl rfl (Nat.le_of_ble_eq_true rfl) d_Mo_readOne_39 (fun r9 M9 hp9 => ?_)
  obtain ⟨rfl, rfl⟩ := hp9
  refine v_r1 ?_
  refine b_if_eq h0 d_Mo_readOne_42 rfl (fun h42 => ?_) (fun h42 => absurd h42 (by unfold kdB; rw [hx]; decide))
  refine v_iload_n h0 d_Mo_readOne_64 1 rfl ?_
  refine v_callS h0 hC (sR_N0 g) (av := [.int (chR s n k)]) (rest := []) (m_Mo_isLocal (kl K) g hI _ _) wd_567 wd_565 wd_566 wd_6 hd_Mo_isLocal (by omega) (by decide) rfl rfl (Nat.le_of_ble_eq_true rfl) d_Mo_readOne_65 (fun r9 M9 hp9 => ?_)
  obtain ⟨rfl, rfl⟩ := hp9
  refine v_r1 ?_
  refine b_if_eq h0 d_Mo_readOne_68 rfl (fun h68 => absurd h68 (by unfold kdB; rw [hx]; decide)) (fun h68 => ?_)
  refine v_aload_n h0 d_Mo_readOne_71 2 rfl ?_
  refine g_Mo_bound_ h0 hC wd_466 d_Mo_readOne_72 ?_
  refine v_iload_n h0 d_Mo_readOne_75 1 rfl ?_
  refine v_bipush h0 d_Mo_readOne_76 (v := nI 107) (by decide) ?_
  refine v_isub h0 d_Mo_readOne_78 ?_
  refine a_Mo_bound_ h0 hC (lcI (chR s n k)) ((lc_of hx).2) ((lc_of hx).1) d_Mo_readOne_79 ?_
  refine v_int (nI 0) (hb) ?_
  refine v_if_le h0 d_Mo_readOne_80 rfl (fun h80 => ?_) (fun h80 => absurd h80 (fun z => z (by decide)))
  refine v_iconst h0 d_Mo_readOne_89 (v := -1) (by decide) ?_
  exact v_iret h0 hC hR d_Mo_readOne_90 (⟨rfl, rfl⟩)
set_option maxHeartbeats 4000000 in
theorem m_Mo_readOne_4 (l : Launch) (g : Gd) (hI : sI (sR g)) (M : Me) {s : Nat → Int32} {c n k t ne : Nat} (hc : c < 10) (hk : k < 100) (hT : TR M c s n) (ht : M 0 17 = nI t) (ht2 : t ≤ 100) (hne : M 0 16 = nI ne) (hne5 : ne ≤ 5) (hx : kd (chR s n k) = 4) (hy : kd (chR s n (k + 1)) = 9) : CR l g y_Mo_readOne c_Mo_readOne 7 (some .int) 2 [.ref (ga g 0), .int (nI c), .int (nI k)] M (fun r M' => r = some (.int (nI (k + 2))) ∧ M' = psh (psh (psh (psh (up2 (opM M t ne) 6 (24 * c + k + 1) 1) (t + 1) (nI (20 + lcI (chR s n (k + 1))))) (t + 2) (nI 1)) (t + 3) (nI (10 + lcI (chR s n (k + 1))))) (t + 4) (nI 1)) := by
  refine Ct.of hI (sR_N0 g) rfl (Nat.le_of_ble_eq_true rfl) (fun K h0 hC hR hkl hn => ?_)
  have hC : Cx (sR g) K gC_Mo _ := hC
  show V K (wp (sR g)) M 0 [(0, .ref (ga g 0)), (1, .int (nI c)), (2, .int (nI k))] []
  refine v_aload_n h0 d_Mo_readOne_0 0 rfl ?_
  refine v_iload_n h0 d_Mo_readOne_1 1 rfl ?_
  refine v_iload_n h0 d_Mo_readOne_2 2 rfl ?_
  refine v_callV h0 hC (sR_N0 g) 0 (show 0 < 22 by omega) (show enR g 0 _ = _ from rfl) rfl (av := [.int (nI c), .int (nI k)]) (rest := []) (m_Mo_charAt (kl K) g hI M hc (by omega) hT) wd_564 wd_561 wd_563 ws_32 wd_6 hd_Mo_charAt (by omega) (by decide) rfl rfl (Nat.le_of_ble_eq_true rfl) d_Mo_readOne_3 (fun r9 M9 hp9 => ?_)
  obtain ⟨rfl, rfl⟩ := hp9
  refine v_r1 ?_
  refine v_istore_n h0 d_Mo_readOne_6 (lv' := [(3, .int (chR s n k)), (0, .ref (ga g 0)), (1, .int (nI c)), (2, .int (nI k))]) (lt_kn hn (by decide)) rfl ?_
  refine v_aload_n h0 d_Mo_readOne_7 1 rfl ?_
  refine v_iload_n h0 d_Mo_readOne_8 2 rfl ?_
  refine v_iload_n h0 d_Mo_readOne_9 3 rfl ?_
  refine v_iconst h0 d_Mo_readOne_10 (v := nI 1) (by decide) ?_
  refine v_iadd h0 d_Mo_readOne_11 ?_
  refine v_int (nI (k + 1)) (nI_add k 1) ?_
  refine v_callV h0 hC (sR_N0 g) 0 (show 0 < 22 by omega) (show enR g 0 _ = _ from rfl) rfl (av := [.int (nI c), .int (nI (k + 1))]) (rest := []) (m_Mo_charAt (kl K) g hI M hc (by omega) hT) wd_564 wd_561 wd_563 ws_32 wd_6 hd_Mo_charAt (by omega) (by decide) rfl rfl (Nat.le_of_ble_eq_true rfl) d_Mo_readOne_12 (fun r9 M9 hp9 => ?_)
  obtain ⟨rfl, rfl⟩ := hp9
  refine v_r1 ?_
  refine v_istore h0 d_Mo_readOne_15 (lv' := [(4, .int (chR s n (k + 1))), (3, .int (chR s n k)), (0, .ref (ga g 0)), (1, .int (nI c)), (2, .int (nI k))]) (lt_kn hn (by decide)) rfl ?_
  refine v_aload_n h0 d_Mo_readOne_17 2 rfl ?_
  refine g_Mo_nested_ h0 hC wd_464 d_Mo_readOne_18 ?_
  refine v_int (nI ne) (hne) ?_
  refine v_iconst h0 d_Mo_readOne_21 (v := nI 5) (by decide) ?_
  refine n_icmp_le h0 (by omega) (by omega) d_Mo_readOne_22 rfl (fun h22 => ?_) (fun h22 => absurd h22 (by omega))
  refine v_iload_n h0 d_Mo_readOne_27 1 rfl ?_
  refine v_callS h0 hC (sR_N0 g) (av := [.int (chR s n k)]) (rest := []) (m_Mo_isDigit (kl K) g hI _ _) wd_574 wd_572 wd_573 wd_6 hd_Mo_isDigit (by omega) (by decide) rfl rfl (Nat.le_of_ble_eq_true rfl) d_Mo_readOne_28 (fun r9 M9 hp9 => ?_)
  obtain ⟨rfl, rfl⟩ := hp9
  refine v_r1 ?_
  refine b_if_eq h0 d_Mo_readOne_31 rfl (fun h31 => ?_) (fun h31 => absurd h31 (by unfold kdB; rw [hx]; decide))
  refine v_iload_n h0 d_Mo_readOne_38 1 rfl ?_
  refine v_callS h0 hC (sR_N0 g) (av := [.int (chR s n k)]) (rest := []) (m_Mo_isName (kl K) g hI _ _) wd_581 wd_579 wd_580 wd_6 hd_Mo_isName (by omega) (by decide) rfl rfl (Nat.le_of_ble_eq_true rfl) d_Mo_readOne_39 (fun r9 M9 hp9 => ?_)
  obtain ⟨rfl, rfl⟩ := hp9
  refine v_r1 ?_
  refine b_if_eq h0 d_Mo_readOne_42 rfl (fun h42 => ?_) (fun h42 => absurd h42 (by unfold kdB; rw [hx]; decide))
  refine v_iload_n h0 d_Mo_readOne_64 1 rfl ?_
  refine v_callS h0 hC (sR_N0 g) (av := [.int (chR s n k)]) (rest := []) (m_Mo_isLocal (kl K) g hI _ _) wd_567 wd_565 wd_566 wd_6 hd_Mo_isLocal (by omega) (by decide) rfl rfl (Nat.le_of_ble_eq_true rfl) d_Mo_readOne_65 (fun r9 M9 hp9 => ?_)
  obtain ⟨rfl, rfl⟩ := hp9
  refine v_r1 ?_
  refine b_if_eq h0 d_Mo_readOne_68 rfl (fun h68 => ?_) (fun h68 => absurd h68 (by unfold kdB; rw [hx]; decide))
  refine v_aload_n h0 d_Mo_readOne_91 2 rfl ?_
  refine v_iconst h0 d_Mo_readOne_92 (v := nI 3) (by decide) ?_
  refine v_callV h0 hC (sR_N0 g) 0 (show 0 < 22 by omega) (show enR g 0 _ = _ from rfl) rfl (av := [.int (nI 3)]) (rest := []) (m_Mo_come (kl K) g hI M (t := t) _ (by simp [opM, psh, up2_if, ht]) (by omega)) wd_571 wd_568 wd_570 ws_33 wd_6 hd_Mo_come (by omega) (by decide) rfl rfl (Nat.le_of_ble_eq_true rfl) d_Mo_readOne_93 (fun r9 M9 hp9 => ?_)
  obtain ⟨rfl, rfl⟩ := hp9
  refine v_r0 ?_
  refine v_aload_n h0 d_Mo_readOne_96 2 rfl ?_
  refine v_dup h0 d_Mo_readOne_97 rfl ?_
  refine g_Mo_nested_ h0 hC wd_464 d_Mo_readOne_98 ?_
  refine v_int (nI ne) (by simp [psh, up2_if, hne]) ?_
  refine v_iconst h0 d_Mo_readOne_101 (v := nI 1) (by decide) ?_
  refine v_iadd h0 d_Mo_readOne_102 ?_
  refine v_int (nI (ne + 1)) (nI_add ne 1) ?_
  refine p_Mo_nested_ h0 hC wd_464 d_Mo_readOne_103 ?_
  refine v_iload_n h0 d_Mo_readOne_106 1 rfl ?_
  refine v_bipush h0 d_Mo_readOne_107 (v := nI 36) (by decide) ?_
  refine v_icmp_ne h0 d_Mo_readOne_109 rfl (fun h109 => absurd h109 (fun z => z ((kd_4 _).mp hx))) (fun h109 => ?_)
  refine v_iload h0 d_Mo_readOne_112 0 rfl ?_
  refine v_callS h0 hC (sR_N0 g) (av := [.int (chR s n (k + 1))]) (rest := []) (m_Mo_isLocal (kl K) g hI _ _) wd_567 wd_565 wd_566 wd_6 hd_Mo_isLocal (by omega) (by decide) rfl rfl (Nat.le_of_ble_eq_true rfl) d_Mo_readOne_114 (fun r9 M9 hp9 => ?_)
  obtain ⟨rfl, rfl⟩ := hp9
  refine v_r1 ?_
  refine b_if_ne h0 d_Mo_readOne_117 rfl (fun h117 => ?_) (fun h117 => absurd h117 (by unfold kdB; rw [hy]; decide))
  refine v_aload_n h0 d_Mo_readOne_122 2 rfl ?_
  refine g_Mo_label_ h0 hC wd_454 d_Mo_readOne_123 ?_
  refine v_bipush h0 d_Mo_readOne_126 (v := nI 24) (by decide) ?_
  refine v_iload_n h0 d_Mo_readOne_128 3 rfl ?_
  refine v_imul h0 d_Mo_readOne_129 ?_
  refine v_int (nI (24 * c)) (pk_mul 24 c) ?_
  refine v_iload_n h0 d_Mo_readOne_130 4 rfl ?_
  refine v_iadd h0 d_Mo_readOne_131 ?_
  refine v_int (nI (24 * c + k)) (nI_add (24 * c) k) ?_
  refine v_iconst h0 d_Mo_readOne_132 (v := nI 1) (by decide) ?_
  refine v_iadd h0 d_Mo_readOne_133 ?_
  refine v_int (nI (24 * c + k + 1)) (nI_add (24 * c + k) 1) ?_
  refine v_iconst h0 d_Mo_readOne_134 (v := nI 1) (by decide) ?_
  have hky := (chR_k hy (by decide)).1
  have hn24 := hT.2.1
  refine s_Mo_label_ h0 hC (24 * c + k + 1) (rfl) (z := 1) (by decide) (by omega) d_Mo_readOne_135 ?_
  refine v_aload_n h0 d_Mo_readOne_136 2 rfl ?_
  refine v_bipush h0 d_Mo_readOne_137 (v := nI 20) (by decide) ?_
  refine v_iload h0 d_Mo_readOne_139 0 rfl ?_
  refine v_iadd h0 d_Mo_readOne_141 ?_
  refine v_bipush h0 d_Mo_readOne_142 (v := nI 107) (by decide) ?_
  refine v_isub h0 d_Mo_readOne_144 ?_
  refine v_int (nI (20 + lcI (chR s n (k + 1)))) (fr_l hy 20) ?_
  refine v_callV h0 hC (sR_N0 g) 0 (show 0 < 22 by omega) (show enR g 0 _ = _ from rfl) rfl (av := [.int (nI (20 + lcI (chR s n (k + 1))))]) (rest := []) (m_Mo_come (kl K) g hI (up2 (opM M t ne) 6 (24 * c + k + 1) 1) (t := t + 1) _ (by simp [opM, psh, up2_if, ht]) (by omega)) wd_571 wd_568 wd_570 ws_33 wd_6 hd_Mo_come (by omega) (by decide) rfl rfl (Nat.le_of_ble_eq_true rfl) d_Mo_readOne_145 (fun r9 M9 hp9 => ?_)
  obtain ⟨rfl, rfl⟩ := hp9
  refine v_r0 ?_
  refine v_aload_n h0 d_Mo_readOne_148 2 rfl ?_
  refine v_iconst h0 d_Mo_readOne_149 (v := nI 1) (by decide) ?_
  refine v_callV h0 hC (sR_N0 g) 0 (show 0 < 22 by omega) (show enR g 0 _ = _ from rfl) rfl (av := [.int (nI 1)]) (rest := []) (m_Mo_come (kl K) g hI (psh (up2 (opM M t ne) 6 (24 * c + k + 1) 1) (t + 1) (nI (20 + lcI (chR s n (k + 1))))) (t := t + 2) _ (by simp [opM, psh, up2_if, ht]) (by omega)) wd_571 wd_568 wd_570 ws_33 wd_6 hd_Mo_come (by omega) (by decide) rfl rfl (Nat.le_of_ble_eq_true rfl) d_Mo_readOne_150 (fun r9 M9 hp9 => ?_)
  obtain ⟨rfl, rfl⟩ := hp9
  refine v_r0 ?_
  refine v_aload_n h0 d_Mo_readOne_153 2 rfl ?_
  refine v_bipush h0 d_Mo_readOne_154 (v := nI 10) (by decide) ?_
  refine v_iload h0 d_Mo_readOne_156 0 rfl ?_
  refine v_iadd h0 d_Mo_readOne_158 ?_
  refine v_bipush h0 d_Mo_readOne_159 (v := nI 107) (by decide) ?_
  refine v_isub h0 d_Mo_readOne_161 ?_
  refine v_int (nI (10 + lcI (chR s n (k + 1)))) (fr_l hy 10) ?_
  refine v_callV h0 hC (sR_N0 g) 0 (show 0 < 22 by omega) (show enR g 0 _ = _ from rfl) rfl (av := [.int (nI (10 + lcI (chR s n (k + 1))))]) (rest := []) (m_Mo_come (kl K) g hI (psh (psh (up2 (opM M t ne) 6 (24 * c + k + 1) 1) (t + 1) (nI (20 + lcI (chR s n (k + 1))))) (t + 2) (nI 1)) (t := t + 3) _ (by simp [opM, psh, up2_if, ht]) (by omega)) wd_571 wd_568 wd_570 ws_33 wd_6 hd_Mo_come (by omega) (by decide) rfl rfl (Nat.le_of_ble_eq_true rfl) d_Mo_readOne_162 (fun r9 M9 hp9 => ?_)
  obtain ⟨rfl, rfl⟩ := hp9
  refine v_r0 ?_
  refine v_aload_n h0 d_Mo_readOne_165 2 rfl ?_
  refine v_iconst h0 d_Mo_readOne_166 (v := nI 1) (by decide) ?_
  refine v_callV h0 hC (sR_N0 g) 0 (show 0 < 22 by omega) (show enR g 0 _ = _ from rfl) rfl (av := [.int (nI 1)]) (rest := []) (m_Mo_come (kl K) g hI (psh (psh (psh (up2 (opM M t ne) 6 (24 * c + k + 1) 1) (t + 1) (nI (20 + lcI (chR s n (k + 1))))) (t + 2) (nI 1)) (t + 3) (nI (10 + lcI (chR s n (k + 1))))) (t := t + 4) _ (by simp [opM, psh, up2_if, ht]) (by omega)) wd_571 wd_568 wd_570 ws_33 wd_6 hd_Mo_come (by omega) (by decide) rfl rfl (Nat.le_of_ble_eq_true rfl) d_Mo_readOne_167 (fun r9 M9 hp9 => ?_)
  obtain ⟨rfl, rfl⟩ := hp9
  refine v_r0 ?_
  refine v_iload_n h0 d_Mo_readOne_170 4 rfl ?_
  refine v_iconst h0 d_Mo_readOne_171 (v := nI 2) (by decide) ?_
  refine v_iadd h0 d_Mo_readOne_172 ?_
  refine v_int (nI (k + 2)) (nI_add k 2) ?_
  exact v_iret h0 hC hR d_Mo_readOne_173 (⟨rfl, rfl⟩)
set_option maxHeartbeats 4000000 in
theorem m_Mo_readOne_4x (l : Launch) (g : Gd) (hI : sI (sR g)) (M : Me) {s : Nat → Int32} {c n k t ne : Nat} (hc : c < 10) (hk : k < 100) (hT : TR M c s n) (ht : M 0 17 = nI t) (ht2 : t ≤ 100) (hne : M 0 16 = nI ne) (hne5 : ne ≤ 5) (hx : kd (chR s n k) = 4) (hy : ¬ kd (chR s n (k + 1)) = 9) : CR l g y_Mo_readOne c_Mo_readOne 7 (some .int) 2 [.ref (ga g 0), .int (nI c), .int (nI k)] M (fun r M' => r = some (.int (-1)) ∧ M' = opM M t ne) := by
  refine Ct.of hI (sR_N0 g) rfl (Nat.le_of_ble_eq_true rfl) (fun K h0 hC hR hkl hn => ?_)
  have hC : Cx (sR g) K gC_Mo _ := hC
  show V K (wp (sR g)) M 0 [(0, .ref (ga g 0)), (1, .int (nI c)), (2, .int (nI k))] []
  refine v_aload_n h0 d_Mo_readOne_0 0 rfl ?_
  refine v_iload_n h0 d_Mo_readOne_1 1 rfl ?_
  refine v_iload_n h0 d_Mo_readOne_2 2 rfl ?_
  refine v_callV h0 hC (sR_N0 g) 0 (show 0 < 22 by omega) (show enR g 0 _ = _ from rfl) rfl (av := [.int (nI c), .int (nI k)]) (rest := []) (m_Mo_charAt (kl K) g hI M hc (by omega) hT) wd_564 wd_561 wd_563 ws_32 wd_6 hd_Mo_charAt (by omega) (by decide) rfl rfl (Nat.le_of_ble_eq_true rfl) d_Mo_readOne_3 (fun r9 M9 hp9 => ?_)
  obtain ⟨rfl, rfl⟩ := hp9
  refine v_r1 ?_
  refine v_istore_n h0 d_Mo_readOne_6 (lv' := [(3, .int (chR s n k)), (0, .ref (ga g 0)), (1, .int (nI c)), (2, .int (nI k))]) (lt_kn hn (by decide)) rfl ?_
  refine v_aload_n h0 d_Mo_readOne_7 1 rfl ?_
  refine v_iload_n h0 d_Mo_readOne_8 2 rfl ?_
  refine v_iload_n h0 d_Mo_readOne_9 3 rfl ?_
  refine v_iconst h0 d_Mo_readOne_10 (v := nI 1) (by decide) ?_
  refine v_iadd h0 d_Mo_readOne_11 ?_
  refine v_int (nI (k + 1)) (nI_add k 1) ?_
  refine v_callV h0 hC (sR_N0 g) 0 (show 0 < 22 by omega) (show enR g 0 _ = _ from rfl) rfl (av := [.int (nI c), .int (nI (k + 1))]) (rest := []) (m_Mo_charAt (kl K) g hI M hc (by omega) hT) wd_564 wd_561 wd_563 ws_32 wd_6 hd_Mo_charAt (by omega) (by decide) rfl rfl (Nat.le_of_ble_eq_true rfl) d_Mo_readOne_12 (fun r9 M9 hp9 => ?_)
  obtain ⟨rfl, rfl⟩ := hp9
  refine v_r1 ?_
  refine v_istore h0 d_Mo_readOne_15 (lv' := [(4, .int (chR s n (k + 1))), (3, .int (chR s n k)), (0, .ref (ga g 0)), (1, .int (nI c)), (2, .int (nI k))]) (lt_kn hn (by decide)) rfl ?_
  refine v_aload_n h0 d_Mo_readOne_17 2 rfl ?_
  refine g_Mo_nested_ h0 hC wd_464 d_Mo_readOne_18 ?_
  refine v_int (nI ne) (hne) ?_
  refine v_iconst h0 d_Mo_readOne_21 (v := nI 5) (by decide) ?_
  refine n_icmp_le h0 (by omega) (by omega) d_Mo_readOne_22 rfl (fun h22 => ?_) (fun h22 => absurd h22 (by omega))
  refine v_iload_n h0 d_Mo_readOne_27 1 rfl ?_
  refine v_callS h0 hC (sR_N0 g) (av := [.int (chR s n k)]) (rest := []) (m_Mo_isDigit (kl K) g hI _ _) wd_574 wd_572 wd_573 wd_6 hd_Mo_isDigit (by omega) (by decide) rfl rfl (Nat.le_of_ble_eq_true rfl) d_Mo_readOne_28 (fun r9 M9 hp9 => ?_)
  obtain ⟨rfl, rfl⟩ := hp9
  refine v_r1 ?_
  refine b_if_eq h0 d_Mo_readOne_31 rfl (fun h31 => ?_) (fun h31 => absurd h31 (by unfold kdB; rw [hx]; decide))
  refine v_iload_n h0 d_Mo_readOne_38 1 rfl ?_
  refine v_callS h0 hC (sR_N0 g) (av := [.int (chR s n k)]) (rest := []) (m_Mo_isName (kl K) g hI _ _) wd_581 wd_579 wd_580 wd_6 hd_Mo_isName (by omega) (by decide) rfl rfl (Nat.le_of_ble_eq_true rfl) d_Mo_readOne_39 (fun r9 M9 hp9 => ?_)
  obtain ⟨rfl, rfl⟩ := hp9
  refine v_r1 ?_
  refine b_if_eq h0 d_Mo_readOne_42 rfl (fun h42 => ?_) (fun h42 => absurd h42 (by unfold kdB; rw [hx]; decide))
  refine v_iload_n h0 d_Mo_readOne_64 1 rfl ?_
  refine v_callS h0 hC (sR_N0 g) (av := [.int (chR s n k)]) (rest := []) (m_Mo_isLocal (kl K) g hI _ _) wd_567 wd_565 wd_566 wd_6 hd_Mo_isLocal (by omega) (by decide) rfl rfl (Nat.le_of_ble_eq_true rfl) d_Mo_readOne_65 (fun r9 M9 hp9 => ?_)
  obtain ⟨rfl, rfl⟩ := hp9
  refine v_r1 ?_
  refine b_if_eq h0 d_Mo_readOne_68 rfl (fun h68 => ?_) (fun h68 => absurd h68 (by unfold kdB; rw [hx]; decide))
  refine v_aload_n h0 d_Mo_readOne_91 2 rfl ?_
  refine v_iconst h0 d_Mo_readOne_92 (v := nI 3) (by decide) ?_
  refine v_callV h0 hC (sR_N0 g) 0 (show 0 < 22 by omega) (show enR g 0 _ = _ from rfl) rfl (av := [.int (nI 3)]) (rest := []) (m_Mo_come (kl K) g hI M (t := t) _ (by simp [opM, psh, up2_if, ht]) (by omega)) wd_571 wd_568 wd_570 ws_33 wd_6 hd_Mo_come (by omega) (by decide) rfl rfl (Nat.le_of_ble_eq_true rfl) d_Mo_readOne_93 (fun r9 M9 hp9 => ?_)
  obtain ⟨rfl, rfl⟩ := hp9
  refine v_r0 ?_
  refine v_aload_n h0 d_Mo_readOne_96 2 rfl ?_
  refine v_dup h0 d_Mo_readOne_97 rfl ?_
  refine g_Mo_nested_ h0 hC wd_464 d_Mo_readOne_98 ?_
  refine v_int (nI ne) (by simp [psh, up2_if, hne]) ?_
  refine v_iconst h0 d_Mo_readOne_101 (v := nI 1) (by decide) ?_
  refine v_iadd h0 d_Mo_readOne_102 ?_
  refine v_int (nI (ne + 1)) (nI_add ne 1) ?_
  refine p_Mo_nested_ h0 hC wd_464 d_Mo_readOne_103 ?_
  refine v_iload_n h0 d_Mo_readOne_106 1 rfl ?_
  refine v_bipush h0 d_Mo_readOne_107 (v := nI 36) (by decide) ?_
  refine v_icmp_ne h0 d_Mo_readOne_109 rfl (fun h109 => absurd h109 (fun z => z ((kd_4 _).mp hx))) (fun h109 => ?_)
  refine v_iload h0 d_Mo_readOne_112 0 rfl ?_
  refine v_callS h0 hC (sR_N0 g) (av := [.int (chR s n (k + 1))]) (rest := []) (m_Mo_isLocal (kl K) g hI _ _) wd_567 wd_565 wd_566 wd_6 hd_Mo_isLocal (by omega) (by decide) rfl rfl (Nat.le_of_ble_eq_true rfl) d_Mo_readOne_114 (fun r9 M9 hp9 => ?_)
  obtain ⟨rfl, rfl⟩ := hp9
  refine v_r1 ?_
  refine b_if_ne h0 d_Mo_readOne_117 rfl (fun h117 => absurd h117 (by rw [show kdB 9 (chR s n (k + 1)) = false from decide_eq_false hy]; decide)) (fun h117 => ?_)
  refine v_iconst h0 d_Mo_readOne_120 (v := -1) (by decide) ?_
  exact v_iret h0 hC hR d_Mo_readOne_121 (⟨rfl, rfl⟩)
set_option maxHeartbeats 4000000 in
theorem m_Mo_readOne_5 (l : Launch) (g : Gd) (hI : sI (sR g)) (M : Me) {s : Nat → Int32} {c n k t ne : Nat} (hc : c < 10) (hk : k < 100) (hT : TR M c s n) (ht : M 0 17 = nI t) (ht2 : t ≤ 100) (hne : M 0 16 = nI ne) (hne5 : ne ≤ 5) (hx : kd (chR s n k) = 5) (hy : kd (chR s n (k + 1)) = 8) : CR l g y_Mo_readOne c_Mo_readOne 7 (some .int) 2 [.ref (ga g 0), .int (nI c), .int (nI k)] M (fun r M' => r = some (.int (nI (k + 2))) ∧ M' = psh (up2 (up2 (opM M t ne) 6 (24 * c + k + 1) 1) 8 c ((up2 (opM M t ne) 6 (24 * c + k + 1) 1) 8 c ||| (1 <<< (nI (nmI (chR s n (k + 1))) &&& 31)))) (t + 1) (nI 1)) := by
  refine Ct.of hI (sR_N0 g) rfl (Nat.le_of_ble_eq_true rfl) (fun K h0 hC hR hkl hn => ?_)
  have hC : Cx (sR g) K gC_Mo _ := hC
  show V K (wp (sR g)) M 0 [(0, .ref (ga g 0)), (1, .int (nI c)), (2, .int (nI k))] []
  refine v_aload_n h0 d_Mo_readOne_0 0 rfl ?_
  refine v_iload_n h0 d_Mo_readOne_1 1 rfl ?_
  refine v_iload_n h0 d_Mo_readOne_2 2 rfl ?_
  refine v_callV h0 hC (sR_N0 g) 0 (show 0 < 22 by omega) (show enR g 0 _ = _ from rfl) rfl (av := [.int (nI c), .int (nI k)]) (rest := []) (m_Mo_charAt (kl K) g hI M hc (by omega) hT) wd_564 wd_561 wd_563 ws_32 wd_6 hd_Mo_charAt (by omega) (by decide) rfl rfl (Nat.le_of_ble_eq_true rfl) d_Mo_readOne_3 (fun r9 M9 hp9 => ?_)
  obtain ⟨rfl, rfl⟩ := hp9
  refine v_r1 ?_
  refine v_istore_n h0 d_Mo_readOne_6 (lv' := [(3, .int (chR s n k)), (0, .ref (ga g 0)), (1, .int (nI c)), (2, .int (nI k))]) (lt_kn hn (by decide)) rfl ?_
  refine v_aload_n h0 d_Mo_readOne_7 1 rfl ?_
  refine v_iload_n h0 d_Mo_readOne_8 2 rfl ?_
  refine v_iload_n h0 d_Mo_readOne_9 3 rfl ?_
  refine v_iconst h0 d_Mo_readOne_10 (v := nI 1) (by decide) ?_
  refine v_iadd h0 d_Mo_readOne_11 ?_
  refine v_int (nI (k + 1)) (nI_add k 1) ?_
  refine v_callV h0 hC (sR_N0 g) 0 (show 0 < 22 by omega) (show enR g 0 _ = _ from rfl) rfl (av := [.int (nI c), .int (nI (k + 1))]) (rest := []) (m_Mo_charAt (kl K) g hI M hc (by omega) hT) wd_564 wd_561 wd_563 ws_32 wd_6 hd_Mo_charAt (by omega) (by decide) rfl rfl (Nat.le_of_ble_eq_true rfl) d_Mo_readOne_12 (fun r9 M9 hp9 => ?_)
  obtain ⟨rfl, rfl⟩ := hp9
  refine v_r1 ?_
  refine v_istore h0 d_Mo_readOne_15 (lv' := [(4, .int (chR s n (k + 1))), (3, .int (chR s n k)), (0, .ref (ga g 0)), (1, .int (nI c)), (2, .int (nI k))]) (lt_kn hn (by decide)) rfl ?_
  refine v_aload_n h0 d_Mo_readOne_17 2 rfl ?_
  refine g_Mo_nested_ h0 hC wd_464 d_Mo_readOne_18 ?_
  refine v_int (nI ne) (hne) ?_
  refine v_iconst h0 d_Mo_readOne_21 (v := nI 5) (by decide) ?_
  refine n_icmp_le h0 (by omega) (by omega) d_Mo_readOne_22 rfl (fun h22 => ?_) (fun h22 => absurd h22 (by omega))
  refine v_iload_n h0 d_Mo_readOne_27 1 rfl ?_
  refine v_callS h0 hC (sR_N0 g) (av := [.int (chR s n k)]) (rest := []) (m_Mo_isDigit (kl K) g hI _ _) wd_574 wd_572 wd_573 wd_6 hd_Mo_isDigit (by omega) (by decide) rfl rfl (Nat.le_of_ble_eq_true rfl) d_Mo_readOne_28 (fun r9 M9 hp9 => ?_)
  obtain ⟨rfl, rfl⟩ := hp9
  refine v_r1 ?_
  refine b_if_eq h0 d_Mo_readOne_31 rfl (fun h31 => ?_) (fun h31 => absurd h31 (by unfold kdB; rw [hx]; decide))
  refine v_iload_n h0 d_Mo_readOne_38 1 rfl ?_
  refine v_callS h0 hC (sR_N0 g) (av := [.int (chR s n k)]) (rest := []) (m_Mo_isName (kl K) g hI _ _) wd_581 wd_579 wd_580 wd_6 hd_Mo_isName (by omega) (by decide) rfl rfl (Nat.le_of_ble_eq_true rfl) d_Mo_readOne_39 (fun r9 M9 hp9 => ?_)
  obtain ⟨rfl, rfl⟩ := hp9
  refine v_r1 ?_
  refine b_if_eq h0 d_Mo_readOne_42 rfl (fun h42 => ?_) (fun h42 => absurd h42 (by unfold kdB; rw [hx]; decide))
  refine v_iload_n h0 d_Mo_readOne_64 1 rfl ?_
  refine v_callS h0 hC (sR_N0 g) (av := [.int (chR s n k)]) (rest := []) (m_Mo_isLocal (kl K) g hI _ _) wd_567 wd_565 wd_566 wd_6 hd_Mo_isLocal (by omega) (by decide) rfl rfl (Nat.le_of_ble_eq_true rfl) d_Mo_readOne_65 (fun r9 M9 hp9 => ?_)
  obtain ⟨rfl, rfl⟩ := hp9
  refine v_r1 ?_
  refine b_if_eq h0 d_Mo_readOne_68 rfl (fun h68 => ?_) (fun h68 => absurd h68 (by unfold kdB; rw [hx]; decide))
  refine v_aload_n h0 d_Mo_readOne_91 2 rfl ?_
  refine v_iconst h0 d_Mo_readOne_92 (v := nI 3) (by decide) ?_
  refine v_callV h0 hC (sR_N0 g) 0 (show 0 < 22 by omega) (show enR g 0 _ = _ from rfl) rfl (av := [.int (nI 3)]) (rest := []) (m_Mo_come (kl K) g hI M (t := t) _ (by simp [opM, psh, up2_if, ht]) (by omega)) wd_571 wd_568 wd_570 ws_33 wd_6 hd_Mo_come (by omega) (by decide) rfl rfl (Nat.le_of_ble_eq_true rfl) d_Mo_readOne_93 (fun r9 M9 hp9 => ?_)
  obtain ⟨rfl, rfl⟩ := hp9
  refine v_r0 ?_
  refine v_aload_n h0 d_Mo_readOne_96 2 rfl ?_
  refine v_dup h0 d_Mo_readOne_97 rfl ?_
  refine g_Mo_nested_ h0 hC wd_464 d_Mo_readOne_98 ?_
  refine v_int (nI ne) (by simp [psh, up2_if, hne]) ?_
  refine v_iconst h0 d_Mo_readOne_101 (v := nI 1) (by decide) ?_
  refine v_iadd h0 d_Mo_readOne_102 ?_
  refine v_int (nI (ne + 1)) (nI_add ne 1) ?_
  refine p_Mo_nested_ h0 hC wd_464 d_Mo_readOne_103 ?_
  refine v_iload_n h0 d_Mo_readOne_106 1 rfl ?_
  refine v_bipush h0 d_Mo_readOne_107 (v := nI 36) (by decide) ?_
  refine v_icmp_ne h0 d_Mo_readOne_109 rfl (fun h109 => ?_) (fun h109 => absurd h109 (fun z => absurd (hx.symm.trans ((kd_4 _).mpr z)) (by decide)))
  refine v_iload_n h0 d_Mo_readOne_174 1 rfl ?_
  refine v_bipush h0 d_Mo_readOne_175 (v := nI 33) (by decide) ?_
  refine v_icmp_ne h0 d_Mo_readOne_177 rfl (fun h177 => absurd h177 (fun z => z ((kd_5 _).mp hx))) (fun h177 => ?_)
  refine v_iload h0 d_Mo_readOne_180 0 rfl ?_
  refine v_callS h0 hC (sR_N0 g) (av := [.int (chR s n (k + 1))]) (rest := []) (m_Mo_isName (kl K) g hI _ _) wd_581 wd_579 wd_580 wd_6 hd_Mo_isName (by omega) (by decide) rfl rfl (Nat.le_of_ble_eq_true rfl) d_Mo_readOne_182 (fun r9 M9 hp9 => ?_)
  obtain ⟨rfl, rfl⟩ := hp9
  refine v_r1 ?_
  refine b_if_ne h0 d_Mo_readOne_185 rfl (fun h185 => ?_) (fun h185 => absurd h185 (by unfold kdB; rw [hy]; decide))
  refine v_aload_n h0 d_Mo_readOne_190 2 rfl ?_
  refine g_Mo_label_ h0 hC wd_454 d_Mo_readOne_191 ?_
  refine v_bipush h0 d_Mo_readOne_194 (v := nI 24) (by decide) ?_
  refine v_iload_n h0 d_Mo_readOne_196 3 rfl ?_
  refine v_imul h0 d_Mo_readOne_197 ?_
  refine v_int (nI (24 * c)) (pk_mul 24 c) ?_
  refine v_iload_n h0 d_Mo_readOne_198 4 rfl ?_
  refine v_iadd h0 d_Mo_readOne_199 ?_
  refine v_int (nI (24 * c + k)) (nI_add (24 * c) k) ?_
  refine v_iconst h0 d_Mo_readOne_200 (v := nI 1) (by decide) ?_
  refine v_iadd h0 d_Mo_readOne_201 ?_
  refine v_int (nI (24 * c + k + 1)) (nI_add (24 * c + k) 1) ?_
  refine v_iconst h0 d_Mo_readOne_202 (v := nI 1) (by decide) ?_
  have hky := (chR_k hy (by decide)).1
  have hn24 := hT.2.1
  refine s_Mo_label_ h0 hC (24 * c + k + 1) (rfl) (z := 1) (by decide) (by omega) d_Mo_readOne_203 ?_
  refine v_aload_n h0 d_Mo_readOne_204 2 rfl ?_
  refine g_Mo_used_ h0 hC wd_456 d_Mo_readOne_205 ?_
  refine v_iload_n h0 d_Mo_readOne_208 3 rfl ?_
  refine v_dup2 h0 d_Mo_readOne_209 rfl rfl ?_
  refine a_Mo_used_ h0 hC c (rfl) (by omega) d_Mo_readOne_210 ?_
  refine v_iconst h0 d_Mo_readOne_211 (v := 1) (by decide) ?_
  refine v_iload h0 d_Mo_readOne_212 0 rfl ?_
  refine v_bipush h0 d_Mo_readOne_214 (v := nI 97) (by decide) ?_
  refine v_isub h0 d_Mo_readOne_216 ?_
  refine v_int (nI (nmI (chR s n (k + 1)))) ((nm_of hy).2) ?_
  refine v_ishl h0 d_Mo_readOne_217 ?_
  refine v_ior h0 d_Mo_readOne_218 ?_
  refine s_Mo_used_ h0 hC c (rfl) (z := ((up2 (opM M t ne) 6 (24 * c + k + 1) 1) 8 c) ||| (1 <<< ((nI (nmI (chR s n (k + 1)))) &&& 31))) (rfl) (by omega) d_Mo_readOne_219 ?_
  refine v_aload_n h0 d_Mo_readOne_220 2 rfl ?_
  refine v_iconst h0 d_Mo_readOne_221 (v := nI 1) (by decide) ?_
  refine v_callV h0 hC (sR_N0 g) 0 (show 0 < 22 by omega) (show enR g 0 _ = _ from rfl) rfl (av := [.int (nI 1)]) (rest := []) (m_Mo_come (kl K) g hI (up2 (up2 (opM M t ne) 6 (24 * c + k + 1) 1) 8 c (((up2 (opM M t ne) 6 (24 * c + k + 1) 1) 8 c) ||| (1 <<< ((nI (nmI (chR s n (k + 1)))) &&& 31)))) (t := t + 1) _ (by simp [opM, psh, up2_if, ht]) (by omega)) wd_571 wd_568 wd_570 ws_33 wd_6 hd_Mo_come (by omega) (by decide) rfl rfl (Nat.le_of_ble_eq_true rfl) d_Mo_readOne_222 (fun r9 M9 hp9 => ?_)
  obtain ⟨rfl, rfl⟩ := hp9
  refine v_r0 ?_
  refine v_iload_n h0 d_Mo_readOne_225 4 rfl ?_
  refine v_iconst h0 d_Mo_readOne_226 (v := nI 2) (by decide) ?_
  refine v_iadd h0 d_Mo_readOne_227 ?_
  refine v_int (nI (k + 2)) (nI_add k 2) ?_
  exact v_iret h0 hC hR d_Mo_readOne_228 (⟨rfl, rfl⟩)
set_option maxHeartbeats 4000000 in
theorem m_Mo_readOne_5x (l : Launch) (g : Gd) (hI : sI (sR g)) (M : Me) {s : Nat → Int32} {c n k t ne : Nat} (hc : c < 10) (hk : k < 100) (hT : TR M c s n) (ht : M 0 17 = nI t) (ht2 : t ≤ 100) (hne : M 0 16 = nI ne) (hne5 : ne ≤ 5) (hx : kd (chR s n k) = 5) (hy : ¬ kd (chR s n (k + 1)) = 8) : CR l g y_Mo_readOne c_Mo_readOne 7 (some .int) 2 [.ref (ga g 0), .int (nI c), .int (nI k)] M (fun r M' => r = some (.int (-1)) ∧ M' = opM M t ne) := by
  refine Ct.of hI (sR_N0 g) rfl (Nat.le_of_ble_eq_true rfl) (fun K h0 hC hR hkl hn => ?_)
  have hC : Cx (sR g) K gC_Mo _ := hC
  show V K (wp (sR g)) M 0 [(0, .ref (ga g 0)), (1, .int (nI c)), (2, .int (nI k))] []
  refine v_aload_n h0 d_Mo_readOne_0 0 rfl ?_
  refine v_iload_n h0 d_Mo_readOne_1 1 rfl ?_
  refine v_iload_n h0 d_Mo_readOne_2 2 rfl ?_
  refine v_callV h0 hC (sR_N0 g) 0 (show 0 < 22 by omega) (show enR g 0 _ = _ from rfl) rfl (av := [.int (nI c), .int (nI k)]) (rest := []) (m_Mo_charAt (kl K) g hI M hc (by omega) hT) wd_564 wd_561 wd_563 ws_32 wd_6 hd_Mo_charAt (by omega) (by decide) rfl rfl (Nat.le_of_ble_eq_true rfl) d_Mo_readOne_3 (fun r9 M9 hp9 => ?_)
  obtain ⟨rfl, rfl⟩ := hp9
  refine v_r1 ?_
  refine v_istore_n h0 d_Mo_readOne_6 (lv' := [(3, .int (chR s n k)), (0, .ref (ga g 0)), (1, .int (nI c)), (2, .int (nI k))]) (lt_kn hn (by decide)) rfl ?_
  refine v_aload_n h0 d_Mo_readOne_7 1 rfl ?_
  refine v_iload_n h0 d_Mo_readOne_8 2 rfl ?_
  refine v_iload_n h0 d_Mo_readOne_9 3 rfl ?_
  refine v_iconst h0 d_Mo_readOne_10 (v := nI 1) (by decide) ?_
  refine v_iadd h0 d_Mo_readOne_11 ?_
  refine v_int (nI (k + 1)) (nI_add k 1) ?_
  refine v_callV h0 hC (sR_N0 g) 0 (show 0 < 22 by omega) (show enR g 0 _ = _ from rfl) rfl (av := [.int (nI c), .int (nI (k + 1))]) (rest := []) (m_Mo_charAt (kl K) g hI M hc (by omega) hT) wd_564 wd_561 wd_563 ws_32 wd_6 hd_Mo_charAt (by omega) (by decide) rfl rfl (Nat.le_of_ble_eq_true rfl) d_Mo_readOne_12 (fun r9 M9 hp9 => ?_)
  obtain ⟨rfl, rfl⟩ := hp9
  refine v_r1 ?_
  refine v_istore h0 d_Mo_readOne_15 (lv' := [(4, .int (chR s n (k + 1))), (3, .int (chR s n k)), (0, .ref (ga g 0)), (1, .int (nI c)), (2, .int (nI k))]) (lt_kn hn (by decide)) rfl ?_
  refine v_aload_n h0 d_Mo_readOne_17 2 rfl ?_
  refine g_Mo_nested_ h0 hC wd_464 d_Mo_readOne_18 ?_
  refine v_int (nI ne) (hne) ?_
  refine v_iconst h0 d_Mo_readOne_21 (v := nI 5) (by decide) ?_
  refine n_icmp_le h0 (by omega) (by omega) d_Mo_readOne_22 rfl (fun h22 => ?_) (fun h22 => absurd h22 (by omega))
  refine v_iload_n h0 d_Mo_readOne_27 1 rfl ?_
  refine v_callS h0 hC (sR_N0 g) (av := [.int (chR s n k)]) (rest := []) (m_Mo_isDigit (kl K) g hI _ _) wd_574 wd_572 wd_573 wd_6 hd_Mo_isDigit (by omega) (by decide) rfl rfl (Nat.le_of_ble_eq_true rfl) d_Mo_readOne_28 (fun r9 M9 hp9 => ?_)
  obtain ⟨rfl, rfl⟩ := hp9
  refine v_r1 ?_
  refine b_if_eq h0 d_Mo_readOne_31 rfl (fun h31 => ?_) (fun h31 => absurd h31 (by unfold kdB; rw [hx]; decide))
  refine v_iload_n h0 d_Mo_readOne_38 1 rfl ?_
  refine v_callS h0 hC (sR_N0 g) (av := [.int (chR s n k)]) (rest := []) (m_Mo_isName (kl K) g hI _ _) wd_581 wd_579 wd_580 wd_6 hd_Mo_isName (by omega) (by decide) rfl rfl (Nat.le_of_ble_eq_true rfl) d_Mo_readOne_39 (fun r9 M9 hp9 => ?_)
  obtain ⟨rfl, rfl⟩ := hp9
  refine v_r1 ?_
  refine b_if_eq h0 d_Mo_readOne_42 rfl (fun h42 => ?_) (fun h42 => absurd h42 (by unfold kdB; rw [hx]; decide))
  refine v_iload_n h0 d_Mo_readOne_64 1 rfl ?_
  refine v_callS h0 hC (sR_N0 g) (av := [.int (chR s n k)]) (rest := []) (m_Mo_isLocal (kl K) g hI _ _) wd_567 wd_565 wd_566 wd_6 hd_Mo_isLocal (by omega) (by decide) rfl rfl (Nat.le_of_ble_eq_true rfl) d_Mo_readOne_65 (fun r9 M9 hp9 => ?_)
  obtain ⟨rfl, rfl⟩ := hp9
  refine v_r1 ?_
  refine b_if_eq h0 d_Mo_readOne_68 rfl (fun h68 => ?_) (fun h68 => absurd h68 (by unfold kdB; rw [hx]; decide))
  refine v_aload_n h0 d_Mo_readOne_91 2 rfl ?_
  refine v_iconst h0 d_Mo_readOne_92 (v := nI 3) (by decide) ?_
  refine v_callV h0 hC (sR_N0 g) 0 (show 0 < 22 by omega) (show enR g 0 _ = _ from rfl) rfl (av := [.int (nI 3)]) (rest := []) (m_Mo_come (kl K) g hI M (t := t) _ (by simp [opM, psh, up2_if, ht]) (by omega)) wd_571 wd_568 wd_570 ws_33 wd_6 hd_Mo_come (by omega) (by decide) rfl rfl (Nat.le_of_ble_eq_true rfl) d_Mo_readOne_93 (fun r9 M9 hp9 => ?_)
  obtain ⟨rfl, rfl⟩ := hp9
  refine v_r0 ?_
  refine v_aload_n h0 d_Mo_readOne_96 2 rfl ?_
  refine v_dup h0 d_Mo_readOne_97 rfl ?_
  refine g_Mo_nested_ h0 hC wd_464 d_Mo_readOne_98 ?_
  refine v_int (nI ne) (by simp [psh, up2_if, hne]) ?_
  refine v_iconst h0 d_Mo_readOne_101 (v := nI 1) (by decide) ?_
  refine v_iadd h0 d_Mo_readOne_102 ?_
  refine v_int (nI (ne + 1)) (nI_add ne 1) ?_
  refine p_Mo_nested_ h0 hC wd_464 d_Mo_readOne_103 ?_
  refine v_iload_n h0 d_Mo_readOne_106 1 rfl ?_
  refine v_bipush h0 d_Mo_readOne_107 (v := nI 36) (by decide) ?_
  refine v_icmp_ne h0 d_Mo_readOne_109 rfl (fun h109 => ?_) (fun h109 => absurd h109 (fun z => absurd (hx.symm.trans ((kd_4 _).mpr z)) (by decide)))
  refine v_iload_n h0 d_Mo_readOne_174 1 rfl ?_
  refine v_bipush h0 d_Mo_readOne_175 (v := nI 33) (by decide) ?_
  refine v_icmp_ne h0 d_Mo_readOne_177 rfl (fun h177 => absurd h177 (fun z => z ((kd_5 _).mp hx))) (fun h177 => ?_)
  refine v_iload h0 d_Mo_readOne_180 0 rfl ?_
  refine v_callS h0 hC (sR_N0 g) (av := [.int (chR s n (k + 1))]) (rest := []) (m_Mo_isName (kl K) g hI _ _) wd_581 wd_579 wd_580 wd_6 hd_Mo_isName (by omega) (by decide) rfl rfl (Nat.le_of_ble_eq_true rfl) d_Mo_readOne_182 (fun r9 M9 hp9 => ?_)
  obtain ⟨rfl, rfl⟩ := hp9
  refine v_r1 ?_
  refine b_if_ne h0 d_Mo_readOne_185 rfl (fun h185 => absurd h185 (by rw [show kdB 8 (chR s n (k + 1)) = false from decide_eq_false hy]; decide)) (fun h185 => ?_)
  refine v_iconst h0 d_Mo_readOne_188 (v := -1) (by decide) ?_
  exact v_iret h0 hC hR d_Mo_readOne_189 (⟨rfl, rfl⟩)
set_option maxHeartbeats 4000000 in
theorem m_Mo_readOne_2 (l : Launch) (g : Gd) (hI : sI (sR g)) (M : Me) {s : Nat → Int32} {c n k t ne : Nat} (hc : c < 10) (hk : k < 100) (hT : TR M c s n) (ht : M 0 17 = nI t) (ht2 : t ≤ 100) (hne : M 0 16 = nI ne) (hne5 : ne ≤ 5) (hx : kd (chR s n k) = 2) : CR l g y_Mo_readOne c_Mo_readOne 7 (some .int) 2 [.ref (ga g 0), .int (nI c), .int (nI k)] M (fun r M' => r = some (.int (nI (k + 1))) ∧ M' = psh (psh (opM M t ne) (t + 1) (nI 1)) (t + 2) (nI 1)) := by
  refine Ct.of hI (sR_N0 g) rfl (Nat.le_of_ble_eq_true rfl) (fun K h0 hC hR hkl hn => ?_)
  have hC : Cx (sR g) K gC_Mo _ := hC
  show V K (wp (sR g)) M 0 [(0, .ref (ga g 0)), (1, .int (nI c)), (2, .int (nI k))] []
  refine v_aload_n h0 d_Mo_readOne_0 0 rfl ?_
  refine v_iload_n h0 d_Mo_readOne_1 1 rfl ?_
  refine v_iload_n h0 d_Mo_readOne_2 2 rfl ?_
  refine v_callV h0 hC (sR_N0 g) 0 (show 0 < 22 by omega) (show enR g 0 _ = _ from rfl) rfl (av := [.int (nI c), .int (nI k)]) (rest := []) (m_Mo_charAt (kl K) g hI M hc (by omega) hT) wd_564 wd_561 wd_563 ws_32 wd_6 hd_Mo_charAt (by omega) (by decide) rfl rfl (Nat.le_of_ble_eq_true rfl) d_Mo_readOne_3 (fun r9 M9 hp9 => ?_)
  obtain ⟨rfl, rfl⟩ := hp9
  refine v_r1 ?_
  refine v_istore_n h0 d_Mo_readOne_6 (lv' := [(3, .int (chR s n k)), (0, .ref (ga g 0)), (1, .int (nI c)), (2, .int (nI k))]) (lt_kn hn (by decide)) rfl ?_
  refine v_aload_n h0 d_Mo_readOne_7 1 rfl ?_
  refine v_iload_n h0 d_Mo_readOne_8 2 rfl ?_
  refine v_iload_n h0 d_Mo_readOne_9 3 rfl ?_
  refine v_iconst h0 d_Mo_readOne_10 (v := nI 1) (by decide) ?_
  refine v_iadd h0 d_Mo_readOne_11 ?_
  refine v_int (nI (k + 1)) (nI_add k 1) ?_
  refine v_callV h0 hC (sR_N0 g) 0 (show 0 < 22 by omega) (show enR g 0 _ = _ from rfl) rfl (av := [.int (nI c), .int (nI (k + 1))]) (rest := []) (m_Mo_charAt (kl K) g hI M hc (by omega) hT) wd_564 wd_561 wd_563 ws_32 wd_6 hd_Mo_charAt (by omega) (by decide) rfl rfl (Nat.le_of_ble_eq_true rfl) d_Mo_readOne_12 (fun r9 M9 hp9 => ?_)
  obtain ⟨rfl, rfl⟩ := hp9
  refine v_r1 ?_
  refine v_istore h0 d_Mo_readOne_15 (lv' := [(4, .int (chR s n (k + 1))), (3, .int (chR s n k)), (0, .ref (ga g 0)), (1, .int (nI c)), (2, .int (nI k))]) (lt_kn hn (by decide)) rfl ?_
  refine v_aload_n h0 d_Mo_readOne_17 2 rfl ?_
  refine g_Mo_nested_ h0 hC wd_464 d_Mo_readOne_18 ?_
  refine v_int (nI ne) (hne) ?_
  refine v_iconst h0 d_Mo_readOne_21 (v := nI 5) (by decide) ?_
  refine n_icmp_le h0 (by omega) (by omega) d_Mo_readOne_22 rfl (fun h22 => ?_) (fun h22 => absurd h22 (by omega))
  refine v_iload_n h0 d_Mo_readOne_27 1 rfl ?_
  refine v_callS h0 hC (sR_N0 g) (av := [.int (chR s n k)]) (rest := []) (m_Mo_isDigit (kl K) g hI _ _) wd_574 wd_572 wd_573 wd_6 hd_Mo_isDigit (by omega) (by decide) rfl rfl (Nat.le_of_ble_eq_true rfl) d_Mo_readOne_28 (fun r9 M9 hp9 => ?_)
  obtain ⟨rfl, rfl⟩ := hp9
  refine v_r1 ?_
  refine b_if_eq h0 d_Mo_readOne_31 rfl (fun h31 => ?_) (fun h31 => absurd h31 (by unfold kdB; rw [hx]; decide))
  refine v_iload_n h0 d_Mo_readOne_38 1 rfl ?_
  refine v_callS h0 hC (sR_N0 g) (av := [.int (chR s n k)]) (rest := []) (m_Mo_isName (kl K) g hI _ _) wd_581 wd_579 wd_580 wd_6 hd_Mo_isName (by omega) (by decide) rfl rfl (Nat.le_of_ble_eq_true rfl) d_Mo_readOne_39 (fun r9 M9 hp9 => ?_)
  obtain ⟨rfl, rfl⟩ := hp9
  refine v_r1 ?_
  refine b_if_eq h0 d_Mo_readOne_42 rfl (fun h42 => ?_) (fun h42 => absurd h42 (by unfold kdB; rw [hx]; decide))
  refine v_iload_n h0 d_Mo_readOne_64 1 rfl ?_
  refine v_callS h0 hC (sR_N0 g) (av := [.int (chR s n k)]) (rest := []) (m_Mo_isLocal (kl K) g hI _ _) wd_567 wd_565 wd_566 wd_6 hd_Mo_isLocal (by omega) (by decide) rfl rfl (Nat.le_of_ble_eq_true rfl) d_Mo_readOne_65 (fun r9 M9 hp9 => ?_)
  obtain ⟨rfl, rfl⟩ := hp9
  refine v_r1 ?_
  refine b_if_eq h0 d_Mo_readOne_68 rfl (fun h68 => ?_) (fun h68 => absurd h68 (by unfold kdB; rw [hx]; decide))
  refine v_aload_n h0 d_Mo_readOne_91 2 rfl ?_
  refine v_iconst h0 d_Mo_readOne_92 (v := nI 3) (by decide) ?_
  refine v_callV h0 hC (sR_N0 g) 0 (show 0 < 22 by omega) (show enR g 0 _ = _ from rfl) rfl (av := [.int (nI 3)]) (rest := []) (m_Mo_come (kl K) g hI M (t := t) _ (by simp [opM, psh, up2_if, ht]) (by omega)) wd_571 wd_568 wd_570 ws_33 wd_6 hd_Mo_come (by omega) (by decide) rfl rfl (Nat.le_of_ble_eq_true rfl) d_Mo_readOne_93 (fun r9 M9 hp9 => ?_)
  obtain ⟨rfl, rfl⟩ := hp9
  refine v_r0 ?_
  refine v_aload_n h0 d_Mo_readOne_96 2 rfl ?_
  refine v_dup h0 d_Mo_readOne_97 rfl ?_
  refine g_Mo_nested_ h0 hC wd_464 d_Mo_readOne_98 ?_
  refine v_int (nI ne) (by simp [psh, up2_if, hne]) ?_
  refine v_iconst h0 d_Mo_readOne_101 (v := nI 1) (by decide) ?_
  refine v_iadd h0 d_Mo_readOne_102 ?_
  refine v_int (nI (ne + 1)) (nI_add ne 1) ?_
  refine p_Mo_nested_ h0 hC wd_464 d_Mo_readOne_103 ?_
  refine v_iload_n h0 d_Mo_readOne_106 1 rfl ?_
  refine v_bipush h0 d_Mo_readOne_107 (v := nI 36) (by decide) ?_
  refine v_icmp_ne h0 d_Mo_readOne_109 rfl (fun h109 => ?_) (fun h109 => absurd h109 (fun z => absurd (hx.symm.trans ((kd_4 _).mpr z)) (by decide)))
  refine v_iload_n h0 d_Mo_readOne_174 1 rfl ?_
  refine v_bipush h0 d_Mo_readOne_175 (v := nI 33) (by decide) ?_
  refine v_icmp_ne h0 d_Mo_readOne_177 rfl (fun h177 => ?_) (fun h177 => absurd h177 (fun z => absurd (hx.symm.trans ((kd_5 _).mpr z)) (by decide)))
  refine v_iload_n h0 d_Mo_readOne_229 1 rfl ?_
  refine v_callS h0 hC (sR_N0 g) (av := [.int (chR s n k)]) (rest := []) (m_Mo_isBinary (kl K) g hI _ _) wd_584 wd_582 wd_583 wd_6 hd_Mo_isBinary (by omega) (by decide) rfl rfl (Nat.le_of_ble_eq_true rfl) d_Mo_readOne_230 (fun r9 M9 hp9 => ?_)
  obtain ⟨rfl, rfl⟩ := hp9
  refine v_r1 ?_
  refine b_if_eq h0 d_Mo_readOne_233 rfl (fun h233 => absurd h233 (by unfold kdB; rw [hx]; decide)) (fun h233 => ?_)
  refine v_iconst h0 d_Mo_readOne_236 (v := nI 2) (by decide) ?_
  refine v_goto h0 d_Mo_readOne_237 rfl ?_
  refine v_istore h0 d_Mo_readOne_261 (lv' := [(5, .int (nI 2)), (4, .int (chR s n (k + 1))), (3, .int (chR s n k)), (0, .ref (ga g 0)), (1, .int (nI c)), (2, .int (nI k))]) (lt_kn hn (by decide)) rfl ?_
  refine v_iconst h0 d_Mo_readOne_263 (v := nI 0) (by decide) ?_
  refine v_istore h0 d_Mo_readOne_264 (lv' := [(6, .int (nI 0)), (5, .int (nI 2)), (4, .int (chR s n (k + 1))), (3, .int (chR s n k)), (0, .ref (ga g 0)), (1, .int (nI c)), (2, .int (nI k))]) (lt_kn hn (by decide)) rfl ?_
  refine v_iload h0 d_Mo_readOne_266 0 rfl ?_
  refine v_iload h0 d_Mo_readOne_268 1 rfl ?_
  refine n_icmp_ge h0 (by omega) (by omega) d_Mo_readOne_270 rfl (fun h270 => absurd h270 (by omega)) (fun h270 => ?_)
  refine v_aload_n h0 d_Mo_readOne_273 4 rfl ?_
  refine v_iconst h0 d_Mo_readOne_274 (v := nI 1) (by decide) ?_
  refine v_callV h0 hC (sR_N0 g) 0 (show 0 < 22 by omega) (show enR g 0 _ = _ from rfl) rfl (av := [.int (nI 1)]) (rest := []) (m_Mo_come (kl K) g hI (opM M t ne) (t := t + 1) _ (by simp [opM, psh, up2_if, ht]) (by omega)) wd_571 wd_568 wd_570 ws_33 wd_6 hd_Mo_come (by omega) (by decide) rfl rfl (Nat.le_of_ble_eq_true rfl) d_Mo_readOne_275 (fun r9 M9 hp9 => ?_)
  obtain ⟨rfl, rfl⟩ := hp9
  refine v_r0 ?_
  refine v_iinc h0 d_Mo_readOne_278 (lv' := [(6, .int (nI (0 + 1))), (5, .int (nI 2)), (4, .int (chR s n (k + 1))), (3, .int (chR s n k)), (0, .ref (ga g 0)), (1, .int (nI c)), (2, .int (nI k))]) 0 rfl (inc1 0) (lt_kn hn (by decide)) rfl ?_
  refine v_goto h0 d_Mo_readOne_281 rfl ?_
  refine v_iload h0 d_Mo_readOne_266 0 rfl ?_
  refine v_iload h0 d_Mo_readOne_268 1 rfl ?_
  refine n_icmp_ge h0 (by omega) (by omega) d_Mo_readOne_270 rfl (fun h270 => absurd h270 (by omega)) (fun h270 => ?_)
  refine v_aload_n h0 d_Mo_readOne_273 4 rfl ?_
  refine v_iconst h0 d_Mo_readOne_274 (v := nI 1) (by decide) ?_
  refine v_callV h0 hC (sR_N0 g) 0 (show 0 < 22 by omega) (show enR g 0 _ = _ from rfl) rfl (av := [.int (nI 1)]) (rest := []) (m_Mo_come (kl K) g hI (psh (opM M t ne) (t + 1) (nI 1)) (t := t + 2) _ (by simp [opM, psh, up2_if, ht]) (by omega)) wd_571 wd_568 wd_570 ws_33 wd_6 hd_Mo_come (by omega) (by decide) rfl rfl (Nat.le_of_ble_eq_true rfl) d_Mo_readOne_275 (fun r9 M9 hp9 => ?_)
  obtain ⟨rfl, rfl⟩ := hp9
  refine v_r0 ?_
  refine v_iinc h0 d_Mo_readOne_278 (lv' := [(6, .int (nI (0 + 1 + 1))), (5, .int (nI 2)), (4, .int (chR s n (k + 1))), (3, .int (chR s n k)), (0, .ref (ga g 0)), (1, .int (nI c)), (2, .int (nI k))]) 0 rfl (inc1 (0 + 1)) (lt_kn hn (by decide)) rfl ?_
  refine v_goto h0 d_Mo_readOne_281 rfl ?_
  refine v_iload h0 d_Mo_readOne_266 0 rfl ?_
  refine v_iload h0 d_Mo_readOne_268 1 rfl ?_
  refine n_icmp_ge h0 (by omega) (by omega) d_Mo_readOne_270 rfl (fun h270 => ?_) (fun h270 => absurd h270 (by omega))
  refine v_iload_n h0 d_Mo_readOne_284 3 rfl ?_
  refine v_bipush h0 d_Mo_readOne_285 (v := nI 35) (by decide) ?_
  refine v_icmp_ne h0 d_Mo_readOne_287 rfl (fun h287 => ?_) (fun h287 => absurd h287 (fun z => absurd (hx.symm.trans ((kd_6 _).mpr z)) (by decide)))
  refine v_iload h0 d_Mo_readOne_315 1 rfl ?_
  refine v_if_gt h0 d_Mo_readOne_317 rfl (fun h317 => ?_) (fun h317 => absurd h317 (fun z => z (by decide)))
  refine v_iload_n h0 d_Mo_readOne_326 6 rfl ?_
  refine v_iconst h0 d_Mo_readOne_327 (v := nI 1) (by decide) ?_
  refine v_iadd h0 d_Mo_readOne_328 ?_
  refine v_int (nI (k + 1)) (nI_add k 1) ?_
  refine v_goto h0 d_Mo_readOne_329 rfl ?_
  exact v_iret h0 hC hR d_Mo_readOne_333 (⟨rfl, rfl⟩)
set_option maxHeartbeats 4000000 in
theorem m_Mo_readOne_1 (l : Launch) (g : Gd) (hI : sI (sR g)) (M : Me) {s : Nat → Int32} {c n k t ne : Nat} (hc : c < 10) (hk : k < 100) (hT : TR M c s n) (ht : M 0 17 = nI t) (ht2 : t ≤ 100) (hne : M 0 16 = nI ne) (hne5 : ne ≤ 5) (hx : kd (chR s n k) = 1) : CR l g y_Mo_readOne c_Mo_readOne 7 (some .int) 2 [.ref (ga g 0), .int (nI c), .int (nI k)] M (fun r M' => r = some (.int (nI (k + 1))) ∧ M' = psh (opM M t ne) (t + 1) (nI 1)) := by
  refine Ct.of hI (sR_N0 g) rfl (Nat.le_of_ble_eq_true rfl) (fun K h0 hC hR hkl hn => ?_)
  have hC : Cx (sR g) K gC_Mo _ := hC
  show V K (wp (sR g)) M 0 [(0, .ref (ga g 0)), (1, .int (nI c)), (2, .int (nI k))] []
  refine v_aload_n h0 d_Mo_readOne_0 0 rfl ?_
  refine v_iload_n h0 d_Mo_readOne_1 1 rfl ?_
  refine v_iload_n h0 d_Mo_readOne_2 2 rfl ?_
  refine v_callV h0 hC (sR_N0 g) 0 (show 0 < 22 by omega) (show enR g 0 _ = _ from rfl) rfl (av := [.int (nI c), .int (nI k)]) (rest := []) (m_Mo_charAt (kl K) g hI M hc (by omega) hT) wd_564 wd_561 wd_563 ws_32 wd_6 hd_Mo_charAt (by omega) (by decide) rfl rfl (Nat.le_of_ble_eq_true rfl) d_Mo_readOne_3 (fun r9 M9 hp9 => ?_)
  obtain ⟨rfl, rfl⟩ := hp9
  refine v_r1 ?_
  refine v_istore_n h0 d_Mo_readOne_6 (lv' := [(3, .int (chR s n k)), (0, .ref (ga g 0)), (1, .int (nI c)), (2, .int (nI k))]) (lt_kn hn (by decide)) rfl ?_
  refine v_aload_n h0 d_Mo_readOne_7 1 rfl ?_
  refine v_iload_n h0 d_Mo_readOne_8 2 rfl ?_
  refine v_iload_n h0 d_Mo_readOne_9 3 rfl ?_
  refine v_iconst h0 d_Mo_readOne_10 (v := nI 1) (by decide) ?_
  refine v_iadd h0 d_Mo_readOne_11 ?_
  refine v_int (nI (k + 1)) (nI_add k 1) ?_
  refine v_callV h0 hC (sR_N0 g) 0 (show 0 < 22 by omega) (show enR g 0 _ = _ from rfl) rfl (av := [.int (nI c), .int (nI (k + 1))]) (rest := []) (m_Mo_charAt (kl K) g hI M hc (by omega) hT) wd_564 wd_561 wd_563 ws_32 wd_6 hd_Mo_charAt (by omega) (by decide) rfl rfl (Nat.le_of_ble_eq_true rfl) d_Mo_readOne_12 (fun r9 M9 hp9 => ?_)
  obtain ⟨rfl, rfl⟩ := hp9
  refine v_r1 ?_
  refine v_istore h0 d_Mo_readOne_15 (lv' := [(4, .int (chR s n (k + 1))), (3, .int (chR s n k)), (0, .ref (ga g 0)), (1, .int (nI c)), (2, .int (nI k))]) (lt_kn hn (by decide)) rfl ?_
  refine v_aload_n h0 d_Mo_readOne_17 2 rfl ?_
  refine g_Mo_nested_ h0 hC wd_464 d_Mo_readOne_18 ?_
  refine v_int (nI ne) (hne) ?_
  refine v_iconst h0 d_Mo_readOne_21 (v := nI 5) (by decide) ?_
  refine n_icmp_le h0 (by omega) (by omega) d_Mo_readOne_22 rfl (fun h22 => ?_) (fun h22 => absurd h22 (by omega))
  refine v_iload_n h0 d_Mo_readOne_27 1 rfl ?_
  refine v_callS h0 hC (sR_N0 g) (av := [.int (chR s n k)]) (rest := []) (m_Mo_isDigit (kl K) g hI _ _) wd_574 wd_572 wd_573 wd_6 hd_Mo_isDigit (by omega) (by decide) rfl rfl (Nat.le_of_ble_eq_true rfl) d_Mo_readOne_28 (fun r9 M9 hp9 => ?_)
  obtain ⟨rfl, rfl⟩ := hp9
  refine v_r1 ?_
  refine b_if_eq h0 d_Mo_readOne_31 rfl (fun h31 => ?_) (fun h31 => absurd h31 (by unfold kdB; rw [hx]; decide))
  refine v_iload_n h0 d_Mo_readOne_38 1 rfl ?_
  refine v_callS h0 hC (sR_N0 g) (av := [.int (chR s n k)]) (rest := []) (m_Mo_isName (kl K) g hI _ _) wd_581 wd_579 wd_580 wd_6 hd_Mo_isName (by omega) (by decide) rfl rfl (Nat.le_of_ble_eq_true rfl) d_Mo_readOne_39 (fun r9 M9 hp9 => ?_)
  obtain ⟨rfl, rfl⟩ := hp9
  refine v_r1 ?_
  refine b_if_eq h0 d_Mo_readOne_42 rfl (fun h42 => ?_) (fun h42 => absurd h42 (by unfold kdB; rw [hx]; decide))
  refine v_iload_n h0 d_Mo_readOne_64 1 rfl ?_
  refine v_callS h0 hC (sR_N0 g) (av := [.int (chR s n k)]) (rest := []) (m_Mo_isLocal (kl K) g hI _ _) wd_567 wd_565 wd_566 wd_6 hd_Mo_isLocal (by omega) (by decide) rfl rfl (Nat.le_of_ble_eq_true rfl) d_Mo_readOne_65 (fun r9 M9 hp9 => ?_)
  obtain ⟨rfl, rfl⟩ := hp9
  refine v_r1 ?_
  refine b_if_eq h0 d_Mo_readOne_68 rfl (fun h68 => ?_) (fun h68 => absurd h68 (by unfold kdB; rw [hx]; decide))
  refine v_aload_n h0 d_Mo_readOne_91 2 rfl ?_
  refine v_iconst h0 d_Mo_readOne_92 (v := nI 3) (by decide) ?_
  refine v_callV h0 hC (sR_N0 g) 0 (show 0 < 22 by omega) (show enR g 0 _ = _ from rfl) rfl (av := [.int (nI 3)]) (rest := []) (m_Mo_come (kl K) g hI M (t := t) _ (by simp [opM, psh, up2_if, ht]) (by omega)) wd_571 wd_568 wd_570 ws_33 wd_6 hd_Mo_come (by omega) (by decide) rfl rfl (Nat.le_of_ble_eq_true rfl) d_Mo_readOne_93 (fun r9 M9 hp9 => ?_)
  obtain ⟨rfl, rfl⟩ := hp9
  refine v_r0 ?_
  refine v_aload_n h0 d_Mo_readOne_96 2 rfl ?_
  refine v_dup h0 d_Mo_readOne_97 rfl ?_
  refine g_Mo_nested_ h0 hC wd_464 d_Mo_readOne_98 ?_
  refine v_int (nI ne) (by simp [psh, up2_if, hne]) ?_
  refine v_iconst h0 d_Mo_readOne_101 (v := nI 1) (by decide) ?_
  refine v_iadd h0 d_Mo_readOne_102 ?_
  refine v_int (nI (ne + 1)) (nI_add ne 1) ?_
  refine p_Mo_nested_ h0 hC wd_464 d_Mo_readOne_103 ?_
  refine v_iload_n h0 d_Mo_readOne_106 1 rfl ?_
  refine v_bipush h0 d_Mo_readOne_107 (v := nI 36) (by decide) ?_
  refine v_icmp_ne h0 d_Mo_readOne_109 rfl (fun h109 => ?_) (fun h109 => absurd h109 (fun z => absurd (hx.symm.trans ((kd_4 _).mpr z)) (by decide)))
  refine v_iload_n h0 d_Mo_readOne_174 1 rfl ?_
  refine v_bipush h0 d_Mo_readOne_175 (v := nI 33) (by decide) ?_
  refine v_icmp_ne h0 d_Mo_readOne_177 rfl (fun h177 => ?_) (fun h177 => absurd h177 (fun z => absurd (hx.symm.trans ((kd_5 _).mpr z)) (by decide)))
  refine v_iload_n h0 d_Mo_readOne_229 1 rfl ?_
  refine v_callS h0 hC (sR_N0 g) (av := [.int (chR s n k)]) (rest := []) (m_Mo_isBinary (kl K) g hI _ _) wd_584 wd_582 wd_583 wd_6 hd_Mo_isBinary (by omega) (by decide) rfl rfl (Nat.le_of_ble_eq_true rfl) d_Mo_readOne_230 (fun r9 M9 hp9 => ?_)
  obtain ⟨rfl, rfl⟩ := hp9
  refine v_r1 ?_
  refine b_if_eq h0 d_Mo_readOne_233 rfl (fun h233 => ?_) (fun h233 => absurd h233 (by unfold kdB; rw [hx]; decide))
  refine v_iload_n h0 d_Mo_readOne_240 1 rfl ?_
  refine v_bipush h0 d_Mo_readOne_241 (v := nI 126) (by decide) ?_
  refine v_icmp_ne h0 d_Mo_readOne_243 rfl (fun h243 => absurd h243 (fun z => z ((kd_1 _).mp hx))) (fun h243 => ?_)
  refine v_iconst h0 d_Mo_readOne_246 (v := nI 1) (by decide) ?_
  refine v_goto h0 d_Mo_readOne_247 rfl ?_
  refine v_istore h0 d_Mo_readOne_261 (lv' := [(5, .int (nI 1)), (4, .int (chR s n (k + 1))), (3, .int (chR s n k)), (0, .ref (ga g 0)), (1, .int (nI c)), (2, .int (nI k))]) (lt_kn hn (by decide)) rfl ?_
  refine v_iconst h0 d_Mo_readOne_263 (v := nI 0) (by decide) ?_
  refine v_istore h0 d_Mo_readOne_264 (lv' := [(6, .int (nI 0)), (5, .int (nI 1)), (4, .int (chR s n (k + 1))), (3, .int (chR s n k)), (0, .ref (ga g 0)), (1, .int (nI c)), (2, .int (nI k))]) (lt_kn hn (by decide)) rfl ?_
  refine v_iload h0 d_Mo_readOne_266 0 rfl ?_
  refine v_iload h0 d_Mo_readOne_268 1 rfl ?_
  refine n_icmp_ge h0 (by omega) (by omega) d_Mo_readOne_270 rfl (fun h270 => absurd h270 (by omega)) (fun h270 => ?_)
  refine v_aload_n h0 d_Mo_readOne_273 4 rfl ?_
  refine v_iconst h0 d_Mo_readOne_274 (v := nI 1) (by decide) ?_
  refine v_callV h0 hC (sR_N0 g) 0 (show 0 < 22 by omega) (show enR g 0 _ = _ from rfl) rfl (av := [.int (nI 1)]) (rest := []) (m_Mo_come (kl K) g hI (opM M t ne) (t := t + 1) _ (by simp [opM, psh, up2_if, ht]) (by omega)) wd_571 wd_568 wd_570 ws_33 wd_6 hd_Mo_come (by omega) (by decide) rfl rfl (Nat.le_of_ble_eq_true rfl) d_Mo_readOne_275 (fun r9 M9 hp9 => ?_)
  obtain ⟨rfl, rfl⟩ := hp9
  refine v_r0 ?_
  refine v_iinc h0 d_Mo_readOne_278 (lv' := [(6, .int (nI (0 + 1))), (5, .int (nI 1)), (4, .int (chR s n (k + 1))), (3, .int (chR s n k)), (0, .ref (ga g 0)), (1, .int (nI c)), (2, .int (nI k))]) 0 rfl (inc1 0) (lt_kn hn (by decide)) rfl ?_
  refine v_goto h0 d_Mo_readOne_281 rfl ?_
  refine v_iload h0 d_Mo_readOne_266 0 rfl ?_
  refine v_iload h0 d_Mo_readOne_268 1 rfl ?_
  refine n_icmp_ge h0 (by omega) (by omega) d_Mo_readOne_270 rfl (fun h270 => ?_) (fun h270 => absurd h270 (by omega))
  refine v_iload_n h0 d_Mo_readOne_284 3 rfl ?_
  refine v_bipush h0 d_Mo_readOne_285 (v := nI 35) (by decide) ?_
  refine v_icmp_ne h0 d_Mo_readOne_287 rfl (fun h287 => ?_) (fun h287 => absurd h287 (fun z => absurd (hx.symm.trans ((kd_6 _).mpr z)) (by decide)))
  refine v_iload h0 d_Mo_readOne_315 1 rfl ?_
  refine v_if_gt h0 d_Mo_readOne_317 rfl (fun h317 => ?_) (fun h317 => absurd h317 (fun z => z (by decide)))
  refine v_iload_n h0 d_Mo_readOne_326 6 rfl ?_
  refine v_iconst h0 d_Mo_readOne_327 (v := nI 1) (by decide) ?_
  refine v_iadd h0 d_Mo_readOne_328 ?_
  refine v_int (nI (k + 1)) (nI_add k 1) ?_
  refine v_goto h0 d_Mo_readOne_329 rfl ?_
  exact v_iret h0 hC hR d_Mo_readOne_333 (⟨rfl, rfl⟩)
set_option maxHeartbeats 4000000 in
theorem m_Mo_readOne_3 (l : Launch) (g : Gd) (hI : sI (sR g)) (M : Me) {s : Nat → Int32} {c n k t ne : Nat} (hc : c < 10) (hk : k < 100) (hT : TR M c s n) (ht : M 0 17 = nI t) (ht2 : t ≤ 100) (hne : M 0 16 = nI ne) (hne5 : ne ≤ 5) (hx : kd (chR s n k) = 3) : CR l g y_Mo_readOne c_Mo_readOne 7 (some .int) 2 [.ref (ga g 0), .int (nI c), .int (nI k)] M (fun r M' => r = some (.int (nI (k + 1))) ∧ M' = psh (psh (psh (opM M t ne) (t + 1) (nI 1)) (t + 2) (nI 1)) (t + 3) (nI 1)) := by
  refine Ct.of hI (sR_N0 g) rfl (Nat.le_of_ble_eq_true rfl) (fun K h0 hC hR hkl hn => ?_)
  have hC : Cx (sR g) K gC_Mo _ := hC
  show V K (wp (sR g)) M 0 [(0, .ref (ga g 0)), (1, .int (nI c)), (2, .int (nI k))] []
  refine v_aload_n h0 d_Mo_readOne_0 0 rfl ?_
  refine v_iload_n h0 d_Mo_readOne_1 1 rfl ?_
  refine v_iload_n h0 d_Mo_readOne_2 2 rfl ?_
  refine v_callV h0 hC (sR_N0 g) 0 (show 0 < 22 by omega) (show enR g 0 _ = _ from rfl) rfl (av := [.int (nI c), .int (nI k)]) (rest := []) (m_Mo_charAt (kl K) g hI M hc (by omega) hT) wd_564 wd_561 wd_563 ws_32 wd_6 hd_Mo_charAt (by omega) (by decide) rfl rfl (Nat.le_of_ble_eq_true rfl) d_Mo_readOne_3 (fun r9 M9 hp9 => ?_)
  obtain ⟨rfl, rfl⟩ := hp9
  refine v_r1 ?_
  refine v_istore_n h0 d_Mo_readOne_6 (lv' := [(3, .int (chR s n k)), (0, .ref (ga g 0)), (1, .int (nI c)), (2, .int (nI k))]) (lt_kn hn (by decide)) rfl ?_
  refine v_aload_n h0 d_Mo_readOne_7 1 rfl ?_
  refine v_iload_n h0 d_Mo_readOne_8 2 rfl ?_
  refine v_iload_n h0 d_Mo_readOne_9 3 rfl ?_
  refine v_iconst h0 d_Mo_readOne_10 (v := nI 1) (by decide) ?_
  refine v_iadd h0 d_Mo_readOne_11 ?_
  refine v_int (nI (k + 1)) (nI_add k 1) ?_
  refine v_callV h0 hC (sR_N0 g) 0 (show 0 < 22 by omega) (show enR g 0 _ = _ from rfl) rfl (av := [.int (nI c), .int (nI (k + 1))]) (rest := []) (m_Mo_charAt (kl K) g hI M hc (by omega) hT) wd_564 wd_561 wd_563 ws_32 wd_6 hd_Mo_charAt (by omega) (by decide) rfl rfl (Nat.le_of_ble_eq_true rfl) d_Mo_readOne_12 (fun r9 M9 hp9 => ?_)
  obtain ⟨rfl, rfl⟩ := hp9
  refine v_r1 ?_
  refine v_istore h0 d_Mo_readOne_15 (lv' := [(4, .int (chR s n (k + 1))), (3, .int (chR s n k)), (0, .ref (ga g 0)), (1, .int (nI c)), (2, .int (nI k))]) (lt_kn hn (by decide)) rfl ?_
  refine v_aload_n h0 d_Mo_readOne_17 2 rfl ?_
  refine g_Mo_nested_ h0 hC wd_464 d_Mo_readOne_18 ?_
  refine v_int (nI ne) (hne) ?_
  refine v_iconst h0 d_Mo_readOne_21 (v := nI 5) (by decide) ?_
  refine n_icmp_le h0 (by omega) (by omega) d_Mo_readOne_22 rfl (fun h22 => ?_) (fun h22 => absurd h22 (by omega))
  refine v_iload_n h0 d_Mo_readOne_27 1 rfl ?_
  refine v_callS h0 hC (sR_N0 g) (av := [.int (chR s n k)]) (rest := []) (m_Mo_isDigit (kl K) g hI _ _) wd_574 wd_572 wd_573 wd_6 hd_Mo_isDigit (by omega) (by decide) rfl rfl (Nat.le_of_ble_eq_true rfl) d_Mo_readOne_28 (fun r9 M9 hp9 => ?_)
  obtain ⟨rfl, rfl⟩ := hp9
  refine v_r1 ?_
  refine b_if_eq h0 d_Mo_readOne_31 rfl (fun h31 => ?_) (fun h31 => absurd h31 (by unfold kdB; rw [hx]; decide))
  refine v_iload_n h0 d_Mo_readOne_38 1 rfl ?_
  refine v_callS h0 hC (sR_N0 g) (av := [.int (chR s n k)]) (rest := []) (m_Mo_isName (kl K) g hI _ _) wd_581 wd_579 wd_580 wd_6 hd_Mo_isName (by omega) (by decide) rfl rfl (Nat.le_of_ble_eq_true rfl) d_Mo_readOne_39 (fun r9 M9 hp9 => ?_)
  obtain ⟨rfl, rfl⟩ := hp9
  refine v_r1 ?_
  refine b_if_eq h0 d_Mo_readOne_42 rfl (fun h42 => ?_) (fun h42 => absurd h42 (by unfold kdB; rw [hx]; decide))
  refine v_iload_n h0 d_Mo_readOne_64 1 rfl ?_
  refine v_callS h0 hC (sR_N0 g) (av := [.int (chR s n k)]) (rest := []) (m_Mo_isLocal (kl K) g hI _ _) wd_567 wd_565 wd_566 wd_6 hd_Mo_isLocal (by omega) (by decide) rfl rfl (Nat.le_of_ble_eq_true rfl) d_Mo_readOne_65 (fun r9 M9 hp9 => ?_)
  obtain ⟨rfl, rfl⟩ := hp9
  refine v_r1 ?_
  refine b_if_eq h0 d_Mo_readOne_68 rfl (fun h68 => ?_) (fun h68 => absurd h68 (by unfold kdB; rw [hx]; decide))
  refine v_aload_n h0 d_Mo_readOne_91 2 rfl ?_
  refine v_iconst h0 d_Mo_readOne_92 (v := nI 3) (by decide) ?_
  refine v_callV h0 hC (sR_N0 g) 0 (show 0 < 22 by omega) (show enR g 0 _ = _ from rfl) rfl (av := [.int (nI 3)]) (rest := []) (m_Mo_come (kl K) g hI M (t := t) _ (by simp [opM, psh, up2_if, ht]) (by omega)) wd_571 wd_568 wd_570 ws_33 wd_6 hd_Mo_come (by omega) (by decide) rfl rfl (Nat.le_of_ble_eq_true rfl) d_Mo_readOne_93 (fun r9 M9 hp9 => ?_)
  obtain ⟨rfl, rfl⟩ := hp9
  refine v_r0 ?_
  refine v_aload_n h0 d_Mo_readOne_96 2 rfl ?_
  refine v_dup h0 d_Mo_readOne_97 rfl ?_
  refine g_Mo_nested_ h0 hC wd_464 d_Mo_readOne_98 ?_
  refine v_int (nI ne) (by simp [psh, up2_if, hne]) ?_
  refine v_iconst h0 d_Mo_readOne_101 (v := nI 1) (by decide) ?_
  refine v_iadd h0 d_Mo_readOne_102 ?_
  refine v_int (nI (ne + 1)) (nI_add ne 1) ?_
  refine p_Mo_nested_ h0 hC wd_464 d_Mo_readOne_103 ?_
  refine v_iload_n h0 d_Mo_readOne_106 1 rfl ?_
  refine v_bipush h0 d_Mo_readOne_107 (v := nI 36) (by decide) ?_
  refine v_icmp_ne h0 d_Mo_readOne_109 rfl (fun h109 => ?_) (fun h109 => absurd h109 (fun z => absurd (hx.symm.trans ((kd_4 _).mpr z)) (by decide)))
  refine v_iload_n h0 d_Mo_readOne_174 1 rfl ?_
  refine v_bipush h0 d_Mo_readOne_175 (v := nI 33) (by decide) ?_
  refine v_icmp_ne h0 d_Mo_readOne_177 rfl (fun h177 => ?_) (fun h177 => absurd h177 (fun z => absurd (hx.symm.trans ((kd_5 _).mpr z)) (by decide)))
  refine v_iload_n h0 d_Mo_readOne_229 1 rfl ?_
  refine v_callS h0 hC (sR_N0 g) (av := [.int (chR s n k)]) (rest := []) (m_Mo_isBinary (kl K) g hI _ _) wd_584 wd_582 wd_583 wd_6 hd_Mo_isBinary (by omega) (by decide) rfl rfl (Nat.le_of_ble_eq_true rfl) d_Mo_readOne_230 (fun r9 M9 hp9 => ?_)
  obtain ⟨rfl, rfl⟩ := hp9
  refine v_r1 ?_
  refine b_if_eq h0 d_Mo_readOne_233 rfl (fun h233 => ?_) (fun h233 => absurd h233 (by unfold kdB; rw [hx]; decide))
  refine v_iload_n h0 d_Mo_readOne_240 1 rfl ?_
  refine v_bipush h0 d_Mo_readOne_241 (v := nI 126) (by decide) ?_
  refine v_icmp_ne h0 d_Mo_readOne_243 rfl (fun h243 => ?_) (fun h243 => absurd h243 (fun z => absurd (hx.symm.trans ((kd_1 _).mpr z)) (by decide)))
  refine v_iload_n h0 d_Mo_readOne_250 1 rfl ?_
  refine v_bipush h0 d_Mo_readOne_251 (v := nI 63) (by decide) ?_
  refine v_icmp_ne h0 d_Mo_readOne_253 rfl (fun h253 => absurd h253 (fun z => z ((kd_3 _).mp hx))) (fun h253 => ?_)
  refine v_iconst h0 d_Mo_readOne_256 (v := nI 3) (by decide) ?_
  refine v_goto h0 d_Mo_readOne_257 rfl ?_
  refine v_istore h0 d_Mo_readOne_261 (lv' := [(5, .int (nI 3)), (4, .int (chR s n (k + 1))), (3, .int (chR s n k)), (0, .ref (ga g 0)), (1, .int (nI c)), (2, .int (nI k))]) (lt_kn hn (by decide)) rfl ?_
  refine v_iconst h0 d_Mo_readOne_263 (v := nI 0) (by decide) ?_
  refine v_istore h0 d_Mo_readOne_264 (lv' := [(6, .int (nI 0)), (5, .int (nI 3)), (4, .int (chR s n (k + 1))), (3, .int (chR s n k)), (0, .ref (ga g 0)), (1, .int (nI c)), (2, .int (nI k))]) (lt_kn hn (by decide)) rfl ?_
  refine v_iload h0 d_Mo_readOne_266 0 rfl ?_
  refine v_iload h0 d_Mo_readOne_268 1 rfl ?_
  refine n_icmp_ge h0 (by omega) (by omega) d_Mo_readOne_270 rfl (fun h270 => absurd h270 (by omega)) (fun h270 => ?_)
  refine v_aload_n h0 d_Mo_readOne_273 4 rfl ?_
  refine v_iconst h0 d_Mo_readOne_274 (v := nI 1) (by decide) ?_
  refine v_callV h0 hC (sR_N0 g) 0 (show 0 < 22 by omega) (show enR g 0 _ = _ from rfl) rfl (av := [.int (nI 1)]) (rest := []) (m_Mo_come (kl K) g hI (opM M t ne) (t := t + 1) _ (by simp [opM, psh, up2_if, ht]) (by omega)) wd_571 wd_568 wd_570 ws_33 wd_6 hd_Mo_come (by omega) (by decide) rfl rfl (Nat.le_of_ble_eq_true rfl) d_Mo_readOne_275 (fun r9 M9 hp9 => ?_)
  obtain ⟨rfl, rfl⟩ := hp9
  refine v_r0 ?_
  refine v_iinc h0 d_Mo_readOne_278 (lv' := [(6, .int (nI (0 + 1))), (5, .int (nI 3)), (4, .int (chR s n (k + 1))), (3, .int (chR s n k)), (0, .ref (ga g 0)), (1, .int (nI c)), (2, .int (nI k))]) 0 rfl (inc1 0) (lt_kn hn (by decide)) rfl ?_
  refine v_goto h0 d_Mo_readOne_281 rfl ?_
  refine v_iload h0 d_Mo_readOne_266 0 rfl ?_
  refine v_iload h0 d_Mo_readOne_268 1 rfl ?_
  refine n_icmp_ge h0 (by omega) (by omega) d_Mo_readOne_270 rfl (fun h270 => absurd h270 (by omega)) (fun h270 => ?_)
  refine v_aload_n h0 d_Mo_readOne_273 4 rfl ?_
  refine v_iconst h0 d_Mo_readOne_274 (v := nI 1) (by decide) ?_
  refine v_callV h0 hC (sR_N0 g) 0 (show 0 < 22 by omega) (show enR g 0 _ = _ from rfl) rfl (av := [.int (nI 1)]) (rest := []) (m_Mo_come (kl K) g hI (psh (opM M t ne) (t + 1) (nI 1)) (t := t + 2) _ (by simp [opM, psh, up2_if, ht]) (by omega)) wd_571 wd_568 wd_570 ws_33 wd_6 hd_Mo_come (by omega) (by decide) rfl rfl (Nat.le_of_ble_eq_true rfl) d_Mo_readOne_275 (fun r9 M9 hp9 => ?_)
  obtain ⟨rfl, rfl⟩ := hp9
  refine v_r0 ?_
  refine v_iinc h0 d_Mo_readOne_278 (lv' := [(6, .int (nI (0 + 1 + 1))), (5, .int (nI 3)), (4, .int (chR s n (k + 1))), (3, .int (chR s n k)), (0, .ref (ga g 0)), (1, .int (nI c)), (2, .int (nI k))]) 0 rfl (inc1 (0 + 1)) (lt_kn hn (by decide)) rfl ?_
  refine v_goto h0 d_Mo_readOne_281 rfl ?_
  refine v_iload h0 d_Mo_readOne_266 0 rfl ?_
  refine v_iload h0 d_Mo_readOne_268 1 rfl ?_
  refine n_icmp_ge h0 (by omega) (by omega) d_Mo_readOne_270 rfl (fun h270 => absurd h270 (by omega)) (fun h270 => ?_)
  refine v_aload_n h0 d_Mo_readOne_273 4 rfl ?_
  refine v_iconst h0 d_Mo_readOne_274 (v := nI 1) (by decide) ?_
  refine v_callV h0 hC (sR_N0 g) 0 (show 0 < 22 by omega) (show enR g 0 _ = _ from rfl) rfl (av := [.int (nI 1)]) (rest := []) (m_Mo_come (kl K) g hI (psh (psh (opM M t ne) (t + 1) (nI 1)) (t + 2) (nI 1)) (t := t + 3) _ (by simp [opM, psh, up2_if, ht]) (by omega)) wd_571 wd_568 wd_570 ws_33 wd_6 hd_Mo_come (by omega) (by decide) rfl rfl (Nat.le_of_ble_eq_true rfl) d_Mo_readOne_275 (fun r9 M9 hp9 => ?_)
  obtain ⟨rfl, rfl⟩ := hp9
  refine v_r0 ?_
  refine v_iinc h0 d_Mo_readOne_278 (lv' := [(6, .int (nI (0 + 1 + 1 + 1))), (5, .int (nI 3)), (4, .int (chR s n (k + 1))), (3, .int (chR s n k)), (0, .ref (ga g 0)), (1, .int (nI c)), (2, .int (nI k))]) 0 rfl (inc1 (0 + 1 + 1)) (lt_kn hn (by decide)) rfl ?_
  refine v_goto h0 d_Mo_readOne_281 rfl ?_
  refine v_iload h0 d_Mo_readOne_266 0 rfl ?_
  refine v_iload h0 d_Mo_readOne_268 1 rfl ?_
  refine n_icmp_ge h0 (by omega) (by omega) d_Mo_readOne_270 rfl (fun h270 => ?_) (fun h270 => absurd h270 (by omega))
  refine v_iload_n h0 d_Mo_readOne_284 3 rfl ?_
  refine v_bipush h0 d_Mo_readOne_285 (v := nI 35) (by decide) ?_
  refine v_icmp_ne h0 d_Mo_readOne_287 rfl (fun h287 => ?_) (fun h287 => absurd h287 (fun z => absurd (hx.symm.trans ((kd_6 _).mpr z)) (by decide)))
  refine v_iload h0 d_Mo_readOne_315 1 rfl ?_
  refine v_if_gt h0 d_Mo_readOne_317 rfl (fun h317 => ?_) (fun h317 => absurd h317 (fun z => z (by decide)))
  refine v_iload_n h0 d_Mo_readOne_326 6 rfl ?_
  refine v_iconst h0 d_Mo_readOne_327 (v := nI 1) (by decide) ?_
  refine v_iadd h0 d_Mo_readOne_328 ?_
  refine v_int (nI (k + 1)) (nI_add k 1) ?_
  refine v_goto h0 d_Mo_readOne_329 rfl ?_
  exact v_iret h0 hC hR d_Mo_readOne_333 (⟨rfl, rfl⟩)
set_option maxHeartbeats 4000000 in
theorem m_Mo_readOne_6 (l : Launch) (g : Gd) (hI : sI (sR g)) (M : Me) {s : Nat → Int32} {c n k t ne : Nat} (hc : c < 10) (hk : k < 100) (hT : TR M c s n) (ht : M 0 17 = nI t) (ht2 : t ≤ 100) (hne : M 0 16 = nI ne) (hne5 : ne ≤ 5) (hx : kd (chR s n k) = 6) : CR l g y_Mo_readOne c_Mo_readOne 7 (some .int) 2 [.ref (ga g 0), .int (nI c), .int (nI k)] M (fun r M' => r = some (.int (nI (k + 1))) ∧ M' = psh (psh (psh (psh (psh (opM M t ne) (t + 1) (nI 1)) (t + 2) (nI 2)) (t + 3) (nI 1)) (t + 4) (nI 2)) (t + 5) (nI 1)) := by
  refine Ct.of hI (sR_N0 g) rfl (Nat.le_of_ble_eq_true rfl) (fun K h0 hC hR hkl hn => ?_)
  have hC : Cx (sR g) K gC_Mo _ := hC
  show V K (wp (sR g)) M 0 [(0, .ref (ga g 0)), (1, .int (nI c)), (2, .int (nI k))] []
  refine v_aload_n h0 d_Mo_readOne_0 0 rfl ?_
  refine v_iload_n h0 d_Mo_readOne_1 1 rfl ?_
  refine v_iload_n h0 d_Mo_readOne_2 2 rfl ?_
  refine v_callV h0 hC (sR_N0 g) 0 (show 0 < 22 by omega) (show enR g 0 _ = _ from rfl) rfl (av := [.int (nI c), .int (nI k)]) (rest := []) (m_Mo_charAt (kl K) g hI M hc (by omega) hT) wd_564 wd_561 wd_563 ws_32 wd_6 hd_Mo_charAt (by omega) (by decide) rfl rfl (Nat.le_of_ble_eq_true rfl) d_Mo_readOne_3 (fun r9 M9 hp9 => ?_)
  obtain ⟨rfl, rfl⟩ := hp9
  refine v_r1 ?_
  refine v_istore_n h0 d_Mo_readOne_6 (lv' := [(3, .int (chR s n k)), (0, .ref (ga g 0)), (1, .int (nI c)), (2, .int (nI k))]) (lt_kn hn (by decide)) rfl ?_
  refine v_aload_n h0 d_Mo_readOne_7 1 rfl ?_
  refine v_iload_n h0 d_Mo_readOne_8 2 rfl ?_
  refine v_iload_n h0 d_Mo_readOne_9 3 rfl ?_
  refine v_iconst h0 d_Mo_readOne_10 (v := nI 1) (by decide) ?_
  refine v_iadd h0 d_Mo_readOne_11 ?_
  refine v_int (nI (k + 1)) (nI_add k 1) ?_
  refine v_callV h0 hC (sR_N0 g) 0 (show 0 < 22 by omega) (show enR g 0 _ = _ from rfl) rfl (av := [.int (nI c), .int (nI (k + 1))]) (rest := []) (m_Mo_charAt (kl K) g hI M hc (by omega) hT) wd_564 wd_561 wd_563 ws_32 wd_6 hd_Mo_charAt (by omega) (by decide) rfl rfl (Nat.le_of_ble_eq_true rfl) d_Mo_readOne_12 (fun r9 M9 hp9 => ?_)
  obtain ⟨rfl, rfl⟩ := hp9
  refine v_r1 ?_
  refine v_istore h0 d_Mo_readOne_15 (lv' := [(4, .int (chR s n (k + 1))), (3, .int (chR s n k)), (0, .ref (ga g 0)), (1, .int (nI c)), (2, .int (nI k))]) (lt_kn hn (by decide)) rfl ?_
  refine v_aload_n h0 d_Mo_readOne_17 2 rfl ?_
  refine g_Mo_nested_ h0 hC wd_464 d_Mo_readOne_18 ?_
  refine v_int (nI ne) (hne) ?_
  refine v_iconst h0 d_Mo_readOne_21 (v := nI 5) (by decide) ?_
  refine n_icmp_le h0 (by omega) (by omega) d_Mo_readOne_22 rfl (fun h22 => ?_) (fun h22 => absurd h22 (by omega))
  refine v_iload_n h0 d_Mo_readOne_27 1 rfl ?_
  refine v_callS h0 hC (sR_N0 g) (av := [.int (chR s n k)]) (rest := []) (m_Mo_isDigit (kl K) g hI _ _) wd_574 wd_572 wd_573 wd_6 hd_Mo_isDigit (by omega) (by decide) rfl rfl (Nat.le_of_ble_eq_true rfl) d_Mo_readOne_28 (fun r9 M9 hp9 => ?_)
  obtain ⟨rfl, rfl⟩ := hp9
  refine v_r1 ?_
  refine b_if_eq h0 d_Mo_readOne_31 rfl (fun h31 => ?_) (fun h31 => absurd h31 (by unfold kdB; rw [hx]; decide))
  refine v_iload_n h0 d_Mo_readOne_38 1 rfl ?_
  refine v_callS h0 hC (sR_N0 g) (av := [.int (chR s n k)]) (rest := []) (m_Mo_isName (kl K) g hI _ _) wd_581 wd_579 wd_580 wd_6 hd_Mo_isName (by omega) (by decide) rfl rfl (Nat.le_of_ble_eq_true rfl) d_Mo_readOne_39 (fun r9 M9 hp9 => ?_)
  obtain ⟨rfl, rfl⟩ := hp9
  refine v_r1 ?_
  refine b_if_eq h0 d_Mo_readOne_42 rfl (fun h42 => ?_) (fun h42 => absurd h42 (by unfold kdB; rw [hx]; decide))
  refine v_iload_n h0 d_Mo_readOne_64 1 rfl ?_
  refine v_callS h0 hC (sR_N0 g) (av := [.int (chR s n k)]) (rest := []) (m_Mo_isLocal (kl K) g hI _ _) wd_567 wd_565 wd_566 wd_6 hd_Mo_isLocal (by omega) (by decide) rfl rfl (Nat.le_of_ble_eq_true rfl) d_Mo_readOne_65 (fun r9 M9 hp9 => ?_)
  obtain ⟨rfl, rfl⟩ := hp9
  refine v_r1 ?_
  refine b_if_eq h0 d_Mo_readOne_68 rfl (fun h68 => ?_) (fun h68 => absurd h68 (by unfold kdB; rw [hx]; decide))
  refine v_aload_n h0 d_Mo_readOne_91 2 rfl ?_
  refine v_iconst h0 d_Mo_readOne_92 (v := nI 3) (by decide) ?_
  refine v_callV h0 hC (sR_N0 g) 0 (show 0 < 22 by omega) (show enR g 0 _ = _ from rfl) rfl (av := [.int (nI 3)]) (rest := []) (m_Mo_come (kl K) g hI M (t := t) _ (by simp [opM, psh, up2_if, ht]) (by omega)) wd_571 wd_568 wd_570 ws_33 wd_6 hd_Mo_come (by omega) (by decide) rfl rfl (Nat.le_of_ble_eq_true rfl) d_Mo_readOne_93 (fun r9 M9 hp9 => ?_)
  obtain ⟨rfl, rfl⟩ := hp9
  refine v_r0 ?_
  refine v_aload_n h0 d_Mo_readOne_96 2 rfl ?_
  refine v_dup h0 d_Mo_readOne_97 rfl ?_
  refine g_Mo_nested_ h0 hC wd_464 d_Mo_readOne_98 ?_
  refine v_int (nI ne) (by simp [psh, up2_if, hne]) ?_
  refine v_iconst h0 d_Mo_readOne_101 (v := nI 1) (by decide) ?_
  refine v_iadd h0 d_Mo_readOne_102 ?_
  refine v_int (nI (ne + 1)) (nI_add ne 1) ?_
  refine p_Mo_nested_ h0 hC wd_464 d_Mo_readOne_103 ?_
  refine v_iload_n h0 d_Mo_readOne_106 1 rfl ?_
  refine v_bipush h0 d_Mo_readOne_107 (v := nI 36) (by decide) ?_
  refine v_icmp_ne h0 d_Mo_readOne_109 rfl (fun h109 => ?_) (fun h109 => absurd h109 (fun z => absurd (hx.symm.trans ((kd_4 _).mpr z)) (by decide)))
  refine v_iload_n h0 d_Mo_readOne_174 1 rfl ?_
  refine v_bipush h0 d_Mo_readOne_175 (v := nI 33) (by decide) ?_
  refine v_icmp_ne h0 d_Mo_readOne_177 rfl (fun h177 => ?_) (fun h177 => absurd h177 (fun z => absurd (hx.symm.trans ((kd_5 _).mpr z)) (by decide)))
  refine v_iload_n h0 d_Mo_readOne_229 1 rfl ?_
  refine v_callS h0 hC (sR_N0 g) (av := [.int (chR s n k)]) (rest := []) (m_Mo_isBinary (kl K) g hI _ _) wd_584 wd_582 wd_583 wd_6 hd_Mo_isBinary (by omega) (by decide) rfl rfl (Nat.le_of_ble_eq_true rfl) d_Mo_readOne_230 (fun r9 M9 hp9 => ?_)
  obtain ⟨rfl, rfl⟩ := hp9
  refine v_r1 ?_
  refine b_if_eq h0 d_Mo_readOne_233 rfl (fun h233 => ?_) (fun h233 => absurd h233 (by unfold kdB; rw [hx]; decide))
  refine v_iload_n h0 d_Mo_readOne_240 1 rfl ?_
  refine v_bipush h0 d_Mo_readOne_241 (v := nI 126) (by decide) ?_
  refine v_icmp_ne h0 d_Mo_readOne_243 rfl (fun h243 => ?_) (fun h243 => absurd h243 (fun z => absurd (hx.symm.trans ((kd_1 _).mpr z)) (by decide)))
  refine v_iload_n h0 d_Mo_readOne_250 1 rfl ?_
  refine v_bipush h0 d_Mo_readOne_251 (v := nI 63) (by decide) ?_
  refine v_icmp_ne h0 d_Mo_readOne_253 rfl (fun h253 => ?_) (fun h253 => absurd h253 (fun z => absurd (hx.symm.trans ((kd_3 _).mpr z)) (by decide)))
  refine v_iconst h0 d_Mo_readOne_260 (v := nI 0) (by decide) ?_
  refine v_istore h0 d_Mo_readOne_261 (lv' := [(5, .int (nI 0)), (4, .int (chR s n (k + 1))), (3, .int (chR s n k)), (0, .ref (ga g 0)), (1, .int (nI c)), (2, .int (nI k))]) (lt_kn hn (by decide)) rfl ?_
  refine v_iconst h0 d_Mo_readOne_263 (v := nI 0) (by decide) ?_
  refine v_istore h0 d_Mo_readOne_264 (lv' := [(6, .int (nI 0)), (5, .int (nI 0)), (4, .int (chR s n (k + 1))), (3, .int (chR s n k)), (0, .ref (ga g 0)), (1, .int (nI c)), (2, .int (nI k))]) (lt_kn hn (by decide)) rfl ?_
  refine v_iload h0 d_Mo_readOne_266 0 rfl ?_
  refine v_iload h0 d_Mo_readOne_268 1 rfl ?_
  refine n_icmp_ge h0 (by omega) (by omega) d_Mo_readOne_270 rfl (fun h270 => ?_) (fun h270 => absurd h270 (by omega))
  refine v_iload_n h0 d_Mo_readOne_284 3 rfl ?_
  refine v_bipush h0 d_Mo_readOne_285 (v := nI 35) (by decide) ?_
  refine v_icmp_ne h0 d_Mo_readOne_287 rfl (fun h287 => absurd h287 (fun z => z ((kd_6 _).mp hx))) (fun h287 => ?_)
  refine v_aload_n h0 d_Mo_readOne_290 4 rfl ?_
  refine v_iconst h0 d_Mo_readOne_291 (v := nI 1) (by decide) ?_
  refine v_callV h0 hC (sR_N0 g) 0 (show 0 < 22 by omega) (show enR g 0 _ = _ from rfl) rfl (av := [.int (nI 1)]) (rest := []) (m_Mo_come (kl K) g hI (opM M t ne) (t := t + 1) _ (by simp [opM, psh, up2_if, ht]) (by omega)) wd_571 wd_568 wd_570 ws_33 wd_6 hd_Mo_come (by omega) (by decide) rfl rfl (Nat.le_of_ble_eq_true rfl) d_Mo_readOne_292 (fun r9 M9 hp9 => ?_)
  obtain ⟨rfl, rfl⟩ := hp9
  refine v_r0 ?_
  refine v_aload_n h0 d_Mo_readOne_295 4 rfl ?_
  refine v_iconst h0 d_Mo_readOne_296 (v := nI 2) (by decide) ?_
  refine v_callV h0 hC (sR_N0 g) 0 (show 0 < 22 by omega) (show enR g 0 _ = _ from rfl) rfl (av := [.int (nI 2)]) (rest := []) (m_Mo_come (kl K) g hI (psh (opM M t ne) (t + 1) (nI 1)) (t := t + 2) _ (by simp [opM, psh, up2_if, ht]) (by omega)) wd_571 wd_568 wd_570 ws_33 wd_6 hd_Mo_come (by omega) (by decide) rfl rfl (Nat.le_of_ble_eq_true rfl) d_Mo_readOne_297 (fun r9 M9 hp9 => ?_)
  obtain ⟨rfl, rfl⟩ := hp9
  refine v_r0 ?_
  refine v_aload_n h0 d_Mo_readOne_300 4 rfl ?_
  refine v_iconst h0 d_Mo_readOne_301 (v := nI 1) (by decide) ?_
  refine v_callV h0 hC (sR_N0 g) 0 (show 0 < 22 by omega) (show enR g 0 _ = _ from rfl) rfl (av := [.int (nI 1)]) (rest := []) (m_Mo_come (kl K) g hI (psh (psh (opM M t ne) (t + 1) (nI 1)) (t + 2) (nI 2)) (t := t + 3) _ (by simp [opM, psh, up2_if, ht]) (by omega)) wd_571 wd_568 wd_570 ws_33 wd_6 hd_Mo_come (by omega) (by decide) rfl rfl (Nat.le_of_ble_eq_true rfl) d_Mo_readOne_302 (fun r9 M9 hp9 => ?_)
  obtain ⟨rfl, rfl⟩ := hp9
  refine v_r0 ?_
  refine v_aload_n h0 d_Mo_readOne_305 4 rfl ?_
  refine v_iconst h0 d_Mo_readOne_306 (v := nI 2) (by decide) ?_
  refine v_callV h0 hC (sR_N0 g) 0 (show 0 < 22 by omega) (show enR g 0 _ = _ from rfl) rfl (av := [.int (nI 2)]) (rest := []) (m_Mo_come (kl K) g hI (psh (psh (psh (opM M t ne) (t + 1) (nI 1)) (t + 2) (nI 2)) (t + 3) (nI 1)) (t := t + 4) _ (by simp [opM, psh, up2_if, ht]) (by omega)) wd_571 wd_568 wd_570 ws_33 wd_6 hd_Mo_come (by omega) (by decide) rfl rfl (Nat.le_of_ble_eq_true rfl) d_Mo_readOne_307 (fun r9 M9 hp9 => ?_)
  obtain ⟨rfl, rfl⟩ := hp9
  refine v_r0 ?_
  refine v_aload_n h0 d_Mo_readOne_310 4 rfl ?_
  refine v_iconst h0 d_Mo_readOne_311 (v := nI 1) (by decide) ?_
  refine v_callV h0 hC (sR_N0 g) 0 (show 0 < 22 by omega) (show enR g 0 _ = _ from rfl) rfl (av := [.int (nI 1)]) (rest := []) (m_Mo_come (kl K) g hI (psh (psh (psh (psh (opM M t ne) (t + 1) (nI 1)) (t + 2) (nI 2)) (t + 3) (nI 1)) (t + 4) (nI 2)) (t := t + 5) _ (by simp [opM, psh, up2_if, ht]) (by omega)) wd_571 wd_568 wd_570 ws_33 wd_6 hd_Mo_come (by omega) (by decide) rfl rfl (Nat.le_of_ble_eq_true rfl) d_Mo_readOne_312 (fun r9 M9 hp9 => ?_)
  obtain ⟨rfl, rfl⟩ := hp9
  refine v_r0 ?_
  refine v_iload h0 d_Mo_readOne_315 1 rfl ?_
  refine v_if_gt h0 d_Mo_readOne_317 rfl (fun h317 => absurd h317 (by decide)) (fun h317 => ?_)
  refine v_iload_n h0 d_Mo_readOne_320 3 rfl ?_
  refine v_bipush h0 d_Mo_readOne_321 (v := nI 35) (by decide) ?_
  refine v_icmp_ne h0 d_Mo_readOne_323 rfl (fun h323 => absurd h323 (fun z => z ((kd_6 _).mp hx))) (fun h323 => ?_)
  refine v_iload_n h0 d_Mo_readOne_326 6 rfl ?_
  refine v_iconst h0 d_Mo_readOne_327 (v := nI 1) (by decide) ?_
  refine v_iadd h0 d_Mo_readOne_328 ?_
  refine v_int (nI (k + 1)) (nI_add k 1) ?_
  refine v_goto h0 d_Mo_readOne_329 rfl ?_
  exact v_iret h0 hC hR d_Mo_readOne_333 (⟨rfl, rfl⟩)
set_option maxHeartbeats 4000000 in
theorem m_Mo_readOne_0 (l : Launch) (g : Gd) (hI : sI (sR g)) (M : Me) {s : Nat → Int32} {c n k t ne : Nat} (hc : c < 10) (hk : k < 100) (hT : TR M c s n) (ht : M 0 17 = nI t) (ht2 : t ≤ 100) (hne : M 0 16 = nI ne) (hne5 : ne ≤ 5) (hx : kd (chR s n k) = 0) : CR l g y_Mo_readOne c_Mo_readOne 7 (some .int) 2 [.ref (ga g 0), .int (nI c), .int (nI k)] M (fun r M' => r = some (.int (-1)) ∧ M' = opM M t ne) := by
  refine Ct.of hI (sR_N0 g) rfl (Nat.le_of_ble_eq_true rfl) (fun K h0 hC hR hkl hn => ?_)
  have hC : Cx (sR g) K gC_Mo _ := hC
  show V K (wp (sR g)) M 0 [(0, .ref (ga g 0)), (1, .int (nI c)), (2, .int (nI k))] []
  refine v_aload_n h0 d_Mo_readOne_0 0 rfl ?_
  refine v_iload_n h0 d_Mo_readOne_1 1 rfl ?_
  refine v_iload_n h0 d_Mo_readOne_2 2 rfl ?_
  refine v_callV h0 hC (sR_N0 g) 0 (show 0 < 22 by omega) (show enR g 0 _ = _ from rfl) rfl (av := [.int (nI c), .int (nI k)]) (rest := []) (m_Mo_charAt (kl K) g hI M hc (by omega) hT) wd_564 wd_561 wd_563 ws_32 wd_6 hd_Mo_charAt (by omega) (by decide) rfl rfl (Nat.le_of_ble_eq_true rfl) d_Mo_readOne_3 (fun r9 M9 hp9 => ?_)
  obtain ⟨rfl, rfl⟩ := hp9
  refine v_r1 ?_
  refine v_istore_n h0 d_Mo_readOne_6 (lv' := [(3, .int (chR s n k)), (0, .ref (ga g 0)), (1, .int (nI c)), (2, .int (nI k))]) (lt_kn hn (by decide)) rfl ?_
  refine v_aload_n h0 d_Mo_readOne_7 1 rfl ?_
  refine v_iload_n h0 d_Mo_readOne_8 2 rfl ?_
  refine v_iload_n h0 d_Mo_readOne_9 3 rfl ?_
  refine v_iconst h0 d_Mo_readOne_10 (v := nI 1) (by decide) ?_
  refine v_iadd h0 d_Mo_readOne_11 ?_
  refine v_int (nI (k + 1)) (nI_add k 1) ?_
  refine v_callV h0 hC (sR_N0 g) 0 (show 0 < 22 by omega) (show enR g 0 _ = _ from rfl) rfl (av := [.int (nI c), .int (nI (k + 1))]) (rest := []) (m_Mo_charAt (kl K) g hI M hc (by omega) hT) wd_564 wd_561 wd_563 ws_32 wd_6 hd_Mo_charAt (by omega) (by decide) rfl rfl (Nat.le_of_ble_eq_true rfl) d_Mo_readOne_12 (fun r9 M9 hp9 => ?_)
  obtain ⟨rfl, rfl⟩ := hp9
  refine v_r1 ?_
  refine v_istore h0 d_Mo_readOne_15 (lv' := [(4, .int (chR s n (k + 1))), (3, .int (chR s n k)), (0, .ref (ga g 0)), (1, .int (nI c)), (2, .int (nI k))]) (lt_kn hn (by decide)) rfl ?_
  refine v_aload_n h0 d_Mo_readOne_17 2 rfl ?_
  refine g_Mo_nested_ h0 hC wd_464 d_Mo_readOne_18 ?_
  refine v_int (nI ne) (hne) ?_
  refine v_iconst h0 d_Mo_readOne_21 (v := nI 5) (by decide) ?_
  refine n_icmp_le h0 (by omega) (by omega) d_Mo_readOne_22 rfl (fun h22 => ?_) (fun h22 => absurd h22 (by omega))
  refine v_iload_n h0 d_Mo_readOne_27 1 rfl ?_
  refine v_callS h0 hC (sR_N0 g) (av := [.int (chR s n k)]) (rest := []) (m_Mo_isDigit (kl K) g hI _ _) wd_574 wd_572 wd_573 wd_6 hd_Mo_isDigit (by omega) (by decide) rfl rfl (Nat.le_of_ble_eq_true rfl) d_Mo_readOne_28 (fun r9 M9 hp9 => ?_)
  obtain ⟨rfl, rfl⟩ := hp9
  refine v_r1 ?_
  refine b_if_eq h0 d_Mo_readOne_31 rfl (fun h31 => ?_) (fun h31 => absurd h31 (by unfold kdB; rw [hx]; decide))
  refine v_iload_n h0 d_Mo_readOne_38 1 rfl ?_
  refine v_callS h0 hC (sR_N0 g) (av := [.int (chR s n k)]) (rest := []) (m_Mo_isName (kl K) g hI _ _) wd_581 wd_579 wd_580 wd_6 hd_Mo_isName (by omega) (by decide) rfl rfl (Nat.le_of_ble_eq_true rfl) d_Mo_readOne_39 (fun r9 M9 hp9 => ?_)
  obtain ⟨rfl, rfl⟩ := hp9
  refine v_r1 ?_
  refine b_if_eq h0 d_Mo_readOne_42 rfl (fun h42 => ?_) (fun h42 => absurd h42 (by unfold kdB; rw [hx]; decide))
  refine v_iload_n h0 d_Mo_readOne_64 1 rfl ?_
  refine v_callS h0 hC (sR_N0 g) (av := [.int (chR s n k)]) (rest := []) (m_Mo_isLocal (kl K) g hI _ _) wd_567 wd_565 wd_566 wd_6 hd_Mo_isLocal (by omega) (by decide) rfl rfl (Nat.le_of_ble_eq_true rfl) d_Mo_readOne_65 (fun r9 M9 hp9 => ?_)
  obtain ⟨rfl, rfl⟩ := hp9
  refine v_r1 ?_
  refine b_if_eq h0 d_Mo_readOne_68 rfl (fun h68 => ?_) (fun h68 => absurd h68 (by unfold kdB; rw [hx]; decide))
  refine v_aload_n h0 d_Mo_readOne_91 2 rfl ?_
  refine v_iconst h0 d_Mo_readOne_92 (v := nI 3) (by decide) ?_
  refine v_callV h0 hC (sR_N0 g) 0 (show 0 < 22 by omega) (show enR g 0 _ = _ from rfl) rfl (av := [.int (nI 3)]) (rest := []) (m_Mo_come (kl K) g hI M (t := t) _ (by simp [opM, psh, up2_if, ht]) (by omega)) wd_571 wd_568 wd_570 ws_33 wd_6 hd_Mo_come (by omega) (by decide) rfl rfl (Nat.le_of_ble_eq_true rfl) d_Mo_readOne_93 (fun r9 M9 hp9 => ?_)
  obtain ⟨rfl, rfl⟩ := hp9
  refine v_r0 ?_
  refine v_aload_n h0 d_Mo_readOne_96 2 rfl ?_
  refine v_dup h0 d_Mo_readOne_97 rfl ?_
  refine g_Mo_nested_ h0 hC wd_464 d_Mo_readOne_98 ?_
  refine v_int (nI ne) (by simp [psh, up2_if, hne]) ?_
  refine v_iconst h0 d_Mo_readOne_101 (v := nI 1) (by decide) ?_
  refine v_iadd h0 d_Mo_readOne_102 ?_
  refine v_int (nI (ne + 1)) (nI_add ne 1) ?_
  refine p_Mo_nested_ h0 hC wd_464 d_Mo_readOne_103 ?_
  refine v_iload_n h0 d_Mo_readOne_106 1 rfl ?_
  refine v_bipush h0 d_Mo_readOne_107 (v := nI 36) (by decide) ?_
  refine v_icmp_ne h0 d_Mo_readOne_109 rfl (fun h109 => ?_) (fun h109 => absurd h109 (fun z => absurd (hx.symm.trans ((kd_4 _).mpr z)) (by decide)))
  refine v_iload_n h0 d_Mo_readOne_174 1 rfl ?_
  refine v_bipush h0 d_Mo_readOne_175 (v := nI 33) (by decide) ?_
  refine v_icmp_ne h0 d_Mo_readOne_177 rfl (fun h177 => ?_) (fun h177 => absurd h177 (fun z => absurd (hx.symm.trans ((kd_5 _).mpr z)) (by decide)))
  refine v_iload_n h0 d_Mo_readOne_229 1 rfl ?_
  refine v_callS h0 hC (sR_N0 g) (av := [.int (chR s n k)]) (rest := []) (m_Mo_isBinary (kl K) g hI _ _) wd_584 wd_582 wd_583 wd_6 hd_Mo_isBinary (by omega) (by decide) rfl rfl (Nat.le_of_ble_eq_true rfl) d_Mo_readOne_230 (fun r9 M9 hp9 => ?_)
  obtain ⟨rfl, rfl⟩ := hp9
  refine v_r1 ?_
  refine b_if_eq h0 d_Mo_readOne_233 rfl (fun h233 => ?_) (fun h233 => absurd h233 (by unfold kdB; rw [hx]; decide))
  refine v_iload_n h0 d_Mo_readOne_240 1 rfl ?_
  refine v_bipush h0 d_Mo_readOne_241 (v := nI 126) (by decide) ?_
  refine v_icmp_ne h0 d_Mo_readOne_243 rfl (fun h243 => ?_) (fun h243 => absurd h243 (fun z => absurd (hx.symm.trans ((kd_1 _).mpr z)) (by decide)))
  refine v_iload_n h0 d_Mo_readOne_250 1 rfl ?_
  refine v_bipush h0 d_Mo_readOne_251 (v := nI 63) (by decide) ?_
  refine v_icmp_ne h0 d_Mo_readOne_253 rfl (fun h253 => ?_) (fun h253 => absurd h253 (fun z => absurd (hx.symm.trans ((kd_3 _).mpr z)) (by decide)))
  refine v_iconst h0 d_Mo_readOne_260 (v := nI 0) (by decide) ?_
  refine v_istore h0 d_Mo_readOne_261 (lv' := [(5, .int (nI 0)), (4, .int (chR s n (k + 1))), (3, .int (chR s n k)), (0, .ref (ga g 0)), (1, .int (nI c)), (2, .int (nI k))]) (lt_kn hn (by decide)) rfl ?_
  refine v_iconst h0 d_Mo_readOne_263 (v := nI 0) (by decide) ?_
  refine v_istore h0 d_Mo_readOne_264 (lv' := [(6, .int (nI 0)), (5, .int (nI 0)), (4, .int (chR s n (k + 1))), (3, .int (chR s n k)), (0, .ref (ga g 0)), (1, .int (nI c)), (2, .int (nI k))]) (lt_kn hn (by decide)) rfl ?_
  refine v_iload h0 d_Mo_readOne_266 0 rfl ?_
  refine v_iload h0 d_Mo_readOne_268 1 rfl ?_
  refine n_icmp_ge h0 (by omega) (by omega) d_Mo_readOne_270 rfl (fun h270 => ?_) (fun h270 => absurd h270 (by omega))
  refine v_iload_n h0 d_Mo_readOne_284 3 rfl ?_
  refine v_bipush h0 d_Mo_readOne_285 (v := nI 35) (by decide) ?_
  refine v_icmp_ne h0 d_Mo_readOne_287 rfl (fun h287 => ?_) (fun h287 => absurd h287 (fun z => absurd (hx.symm.trans ((kd_6 _).mpr z)) (by decide)))
  refine v_iload h0 d_Mo_readOne_315 1 rfl ?_
  refine v_if_gt h0 d_Mo_readOne_317 rfl (fun h317 => absurd h317 (by decide)) (fun h317 => ?_)
  refine v_iload_n h0 d_Mo_readOne_320 3 rfl ?_
  refine v_bipush h0 d_Mo_readOne_321 (v := nI 35) (by decide) ?_
  refine v_icmp_ne h0 d_Mo_readOne_323 rfl (fun h323 => ?_) (fun h323 => absurd h323 (fun z => absurd (hx.symm.trans ((kd_6 _).mpr z)) (by decide)))
  refine v_iconst h0 d_Mo_readOne_332 (v := -1) (by decide) ?_
  exact v_iret h0 hC hR d_Mo_readOne_333 (⟨rfl, rfl⟩)
