/-! THE REFERENCE'S TYPES -/
def RsR (M β : Me) : Prop := ∀ c, c < 10 → M 10 c = β 5 c ∧ M 13 c = β 8 c ∧ (β 5 c = 14 → M 11 c = β 6 c ∧ M 12 c = β 7 c)
theorem TxR.rows {M M' β : Me} (h : TxR M β) (hr : ∀ i, i = 2 ∨ i = 3 ∨ i = 4 ∨ i = 7 ∨ i = 8 → M' i = M i) : TxR M' β := by
  intro c hc
  rw [hr 2 (by omega), hr 3 (by omega), hr 4 (by omega), hr 7 (by omega), hr 8 (by omega)]
  exact h c hc
theorem RsR.rows {M M' β : Me} (h : RsR M β) (hr : ∀ i, 10 ≤ i → i ≤ 13 → M' i = M i) : RsR M' β := by
  intro c hc
  rw [hr 10 (by omega) (by omega), hr 11 (by omega) (by omega), hr 12 (by omega) (by omega), hr 13 (by omega) (by omega)]
  exact h c hc
def ptM (M : Me) (t : Nat) (v : Int32) : Me := up2 (up2 M 16 t v) 0 20 (nI (t + 1))
def tv1 (a : Int32) : Int32 := if a = 2 then 2 else 0
def tv2 (x a b : Int32) : Int32 := if x = 38 then (if a = 2 ∧ b = 2 then 2 else 0) else if a = 1 ∧ b = 1 then (if x = 60 ∨ x = 61 then 2 else 1) else 0
def tv3 (a b d : Int32) : Int32 := if a = 2 ∧ b = d then b else 0
def tv4 (a b : Int32) : Int32 := if a = 1 then b else 0
def tv5 (a : Int32) (f : Bool) : Int32 := if a = 1 ∧ f = true then 1 else 0
def tv6 (a b d : Int32) : Int32 := if a = 1 ∧ b = 1 ∧ d = 1 then 1 else 0
set_option maxHeartbeats 4000000 in
theorem m_Mo_pushType (l : Launch) (g : Gd) (hI : sI (sR g)) (M : Me) {t : Nat} (x : Int32) (ht : M 0 20 = nI t) (h30 : t < 30) : CR l g y_Mo_pushType c_Mo_pushType 2 none 1 [.ref (ga g 0), .int x] M (fun r M' => r = none ∧ M' = ptM M t x) := by
  refine Ct.of hI (sR_N0 g) rfl (Nat.le_of_ble_eq_true rfl) (fun K h0 hC hR hkl hn => ?_)
  have hC : Cx (sR g) K gC_Mo _ := hC
  show V K (wp (sR g)) M 0 [(0, .ref (ga g 0)), (1, .int x)] []
  refine v_aload_n h0 d_Mo_pushType_0 0 rfl ?_
  refine g_Mo_types_ h0 hC wd_467 d_Mo_pushType_1 ?_
  refine v_aload_n h0 d_Mo_pushType_4 0 rfl ?_
  refine g_Mo_typeCount_ h0 hC wd_468 d_Mo_pushType_5 ?_
  refine v_int (nI t) (ht) ?_
  refine v_iload_n h0 d_Mo_pushType_8 1 rfl ?_
  refine s_Mo_types_ h0 hC t (rfl) (z := x) (rfl) (by omega) d_Mo_pushType_9 ?_
  refine v_aload_n h0 d_Mo_pushType_10 0 rfl ?_
  refine v_dup h0 d_Mo_pushType_11 rfl ?_
  refine g_Mo_typeCount_ h0 hC wd_468 d_Mo_pushType_12 ?_
  refine v_int (nI t) (by rw [up2_n _ _ (by omega)]; exact ht) ?_
  refine v_iconst h0 d_Mo_pushType_15 (v := nI 1) (by decide) ?_
  refine v_iadd h0 d_Mo_pushType_16 ?_
  refine v_int (nI (t + 1)) (nI_add t 1) ?_
  refine p_Mo_typeCount_ h0 hC wd_468 d_Mo_pushType_17 ?_
  exact v_vret h0 hC hR d_Mo_pushType_20 (⟨rfl, rfl⟩)
set_option maxHeartbeats 4000000 in
theorem m_Mo_popType (l : Launch) (g : Gd) (hI : sI (sR g)) (M : Me) {t : Nat} (ht : M 0 20 = nI (t + 1)) (h30 : t < 30) : CR l g y_Mo_popType c_Mo_popType 1 (some .int) 1 [.ref (ga g 0)] M (fun r M' => r = some (.int (M 16 t)) ∧ M' = up2 M 0 20 (nI t)) := by
  refine Ct.of hI (sR_N0 g) rfl (Nat.le_of_ble_eq_true rfl) (fun K h0 hC hR hkl hn => ?_)
  have hC : Cx (sR g) K gC_Mo _ := hC
  show V K (wp (sR g)) M 0 [(0, .ref (ga g 0))] []
  refine v_aload_n h0 d_Mo_popType_0 0 rfl ?_
  refine v_dup h0 d_Mo_popType_1 rfl ?_
  refine g_Mo_typeCount_ h0 hC wd_468 d_Mo_popType_2 ?_
  refine v_iconst h0 d_Mo_popType_5 (v := nI 1) (by decide) ?_
  refine v_isub h0 d_Mo_popType_6 ?_
  refine v_int (nI t) (by rw [ht]; exact pred1 t) ?_
  refine p_Mo_typeCount_ h0 hC wd_468 d_Mo_popType_7 ?_
  refine v_aload_n h0 d_Mo_popType_10 0 rfl ?_
  refine g_Mo_types_ h0 hC wd_467 d_Mo_popType_11 ?_
  refine v_aload_n h0 d_Mo_popType_14 0 rfl ?_
  refine g_Mo_typeCount_ h0 hC wd_468 d_Mo_popType_15 ?_
  refine v_int (nI t) (up2_s _ _ _ _) ?_
  refine a_Mo_types_ h0 hC t (rfl) (by omega) d_Mo_popType_18 ?_
  refine v_int (M 16 t) (up2_n _ _ (by omega)) ?_
  exact v_iret h0 hC hR d_Mo_popType_19 (⟨rfl, rfl⟩)
set_option maxHeartbeats 4000000 in
theorem m_Mo_typeOfName (l : Launch) (g : Gd) (hI : sI (sR g)) (M : Me) {β : Me} {j : Nat} (hT : TxR M β) (hR9 : RsR M β) (hj : ¬ dfL β j 10 < 0) : CR l g y_Mo_typeOfName c_Mo_typeOfName 3 (some .int) 2 [.ref (ga g 0), .int (nI j)] M (fun r M' => r = some (.int (if β 5 (dfN β j) = 14 then β 7 (dfN β j) else 0)) ∧ M = M') := by
  refine Ct.of hI (sR_N0 g) rfl (Nat.le_of_ble_eq_true rfl) (fun K h0 hC hR hkl hn => ?_)
  have hC : Cx (sR g) K gC_Mo _ := hC
  show V K (wp (sR g)) M 0 [(0, .ref (ga g 0)), (1, .int (nI j))] []
  refine v_aload_n h0 d_Mo_typeOfName_0 0 rfl ?_
  refine v_iload_n h0 d_Mo_typeOfName_1 1 rfl ?_
  refine v_callV h0 hC (sR_N0 g) 0 (show 0 < 22 by omega) (show enR g 0 _ = _ from rfl) rfl (av := [.int (nI j)]) (rest := []) (m_Mo_definer (kl K) g hI M (fun c hc => (hT c hc).1) j) wd_631 wd_628 wd_630 ws_43 wd_6 hd_Mo_definer (by omega) (by decide) rfl rfl (Nat.le_of_ble_eq_true rfl) d_Mo_typeOfName_2 (fun r9 M9 hp9 => ?_)
  obtain ⟨rfl, rfl⟩ := hp9
  refine v_r1 ?_
  have hd10 := (df_def hj).1
  refine v_int (nI (dfN β j)) ((df_def hj).2.1) ?_
  refine v_istore_n h0 d_Mo_typeOfName_5 (lv' := [(2, .int (nI (dfN β j))), (0, .ref (ga g 0)), (1, .int (nI j))]) (lt_kn hn (by decide)) rfl ?_
  refine v_aload_n h0 d_Mo_typeOfName_6 1 rfl ?_
  refine g_Mo_result_ h0 hC wd_458 d_Mo_typeOfName_7 ?_
  refine v_iload_n h0 d_Mo_typeOfName_10 0 rfl ?_
  refine a_Mo_result_ h0 hC (dfN β j) (rfl) (by omega) d_Mo_typeOfName_11 ?_
  refine v_int (β 5 (dfN β j)) ((hR9 _ hd10).1) ?_
  refine v_bipush h0 d_Mo_typeOfName_12 (v := 14) (by decide) ?_
  refine v_icmp_ne h0 d_Mo_typeOfName_14 rfl (fun h14 => ?_) (fun h14 => ?_)
  · skip
    refine v_iconst h0 d_Mo_typeOfName_26 (v := nI 0) (by decide) ?_
    exact v_iret h0 hC hR d_Mo_typeOfName_27 (⟨by rw [if_neg h14]; rfl, rfl⟩)
  · skip
    refine v_aload_n h0 d_Mo_typeOfName_17 1 rfl ?_
    refine g_Mo_kindOf_ h0 hC wd_460 d_Mo_typeOfName_18 ?_
    refine v_iload_n h0 d_Mo_typeOfName_21 0 rfl ?_
    refine a_Mo_kindOf_ h0 hC (dfN β j) (rfl) (by omega) d_Mo_typeOfName_22 ?_
    refine v_int (β 7 (dfN β j)) (((hR9 _ hd10).2.2 h14).2) ?_
    refine v_goto h0 d_Mo_typeOfName_23 rfl ?_
    exact v_iret h0 hC hR d_Mo_typeOfName_27 (⟨by rw [if_pos h14], rfl⟩)
set_option maxHeartbeats 4000000 in
theorem m_Mo_isFunctionName (l : Launch) (g : Gd) (hI : sI (sR g)) (M : Me) {β : Me} {c j : Nat} (hc : c < 10) (hT : TxR M β) (hR9 : RsR M β) (hj : ¬ dfL β j 10 < 0) : CR l g y_Mo_isFunctionName c_Mo_isFunctionName 4 (some .boolean) 2 [.ref (ga g 0), .int (nI c), .int (nI j)] M (fun r M' => r = some (.int (bI (fjB β c j))) ∧ M = M') := by
  refine Ct.of hI (sR_N0 g) rfl (Nat.le_of_ble_eq_true rfl) (fun K h0 hC hR hkl hn => ?_)
  have hC : Cx (sR g) K gC_Mo _ := hC
  show V K (wp (sR g)) M 0 [(0, .ref (ga g 0)), (1, .int (nI c)), (2, .int (nI j))] []
  refine v_aload_n h0 d_Mo_isFunctionName_0 0 rfl ?_
  refine v_iload_n h0 d_Mo_isFunctionName_1 2 rfl ?_
  refine v_callV h0 hC (sR_N0 g) 0 (show 0 < 22 by omega) (show enR g 0 _ = _ from rfl) rfl (av := [.int (nI j)]) (rest := []) (m_Mo_definer (kl K) g hI M (fun c hc => (hT c hc).1) j) wd_631 wd_628 wd_630 ws_43 wd_6 hd_Mo_definer (by omega) (by decide) rfl rfl (Nat.le_of_ble_eq_true rfl) d_Mo_isFunctionName_2 (fun r9 M9 hp9 => ?_)
  obtain ⟨rfl, rfl⟩ := hp9
  refine v_r1 ?_
  have hd10 := (df_def hj).1
  refine v_int (nI (dfN β j)) ((df_def hj).2.1) ?_
  refine v_istore_n h0 d_Mo_isFunctionName_5 (lv' := [(3, .int (nI (dfN β j))), (0, .ref (ga g 0)), (1, .int (nI c)), (2, .int (nI j))]) (lt_kn hn (by decide)) rfl ?_
  refine v_iload_n h0 d_Mo_isFunctionName_6 0 rfl ?_
  refine v_iload_n h0 d_Mo_isFunctionName_7 2 rfl ?_
  refine n_icmp_ne h0 (by omega) (by omega) d_Mo_isFunctionName_8 rfl (fun h8 => ?_) (fun h8 => ?_)
  · skip
    refine v_aload_n h0 d_Mo_isFunctionName_19 1 rfl ?_
    refine g_Mo_result_ h0 hC wd_458 d_Mo_isFunctionName_20 ?_
    refine v_iload_n h0 d_Mo_isFunctionName_23 0 rfl ?_
    refine a_Mo_result_ h0 hC (dfN β j) (rfl) (by omega) d_Mo_isFunctionName_24 ?_
    refine v_int (β 5 (dfN β j)) ((hR9 _ hd10).1) ?_
    refine v_bipush h0 d_Mo_isFunctionName_25 (v := 13) (by decide) ?_
    refine v_icmp_ne h0 d_Mo_isFunctionName_27 rfl (fun h27 => ?_) (fun h27 => ?_)
    · skip
      refine v_iconst h0 d_Mo_isFunctionName_34 (v := nI 0) (by decide) ?_
      exact v_zret h0 hC hR (rfl) d_Mo_isFunctionName_35 (⟨ret_f (by unfold fjB; rw [if_neg h8, decide_eq_false h27]), rfl⟩)
    · skip
      refine v_iconst h0 d_Mo_isFunctionName_30 (v := nI 1) (by decide) ?_
      refine v_goto h0 d_Mo_isFunctionName_31 rfl ?_
      exact v_zret h0 hC hR (rfl) d_Mo_isFunctionName_35 (⟨ret_t (by unfold fjB; rw [if_neg h8, decide_eq_true h27]), rfl⟩)
  · skip
    refine v_aload_n h0 d_Mo_isFunctionName_11 1 rfl ?_
    refine v_iload_n h0 d_Mo_isFunctionName_12 2 rfl ?_
    refine v_callV h0 hC (sR_N0 g) 0 (show 0 < 22 by omega) (show enR g 0 _ = _ from rfl) rfl (av := [.int (nI c)]) (rest := []) (m_Mo_isFunction (kl K) g hI M hc hT) wd_592 wd_589 wd_591 ws_36 wd_6 hd_Mo_isFunction (by omega) (by decide) rfl rfl (Nat.le_of_ble_eq_true rfl) d_Mo_isFunctionName_13 (fun r9 M9 hp9 => ?_)
    obtain ⟨rfl, rfl⟩ := hp9
    refine v_r1 ?_
    refine v_goto h0 d_Mo_isFunctionName_16 rfl ?_
    exact v_zret h0 hC hR (bI_z _) d_Mo_isFunctionName_35 (⟨by unfold fjB; rw [if_pos h8], rfl⟩)
set_option maxHeartbeats 4000000 in
theorem m_Mo_typeOver_1 (l : Launch) (g : Gd) (hI : sI (sR g)) (M : Me) {s : Nat → Int32} {c n k t : Nat} (hc : c < 10) (hk : k < n) (hT : TR M c s n) (hx : kd (s k) = 1) {a : Int32} (ha : M 16 (t) = a) (h20 : M 0 20 = nI (t + 1)) (ht20 : t ≤ 20)  : CR l g y_Mo_typeOver c_Mo_typeOver 7 (some .int) 3 [.ref (ga g 0), .int (nI c), .int (nI k)] M (fun r M' => r = some (.int (tv1 a)) ∧ M' = up2 M 0 20 (nI (t))) := by
  have hn24 := hT.2.1
  refine Ct.of hI (sR_N0 g) rfl (Nat.le_of_ble_eq_true rfl) (fun K h0 hC hR hkl hn => ?_)
  have hC : Cx (sR g) K gC_Mo _ := hC
  show V K (wp (sR g)) M 0 [(0, .ref (ga g 0)), (1, .int (nI c)), (2, .int (nI k))] []
  refine v_aload_n h0 d_Mo_typeOver_0 0 rfl ?_
  refine v_iload_n h0 d_Mo_typeOver_1 1 rfl ?_
  refine v_iload_n h0 d_Mo_typeOver_2 2 rfl ?_
  refine v_callV h0 hC (sR_N0 g) 0 (show 0 < 22 by omega) (show enR g 0 _ = _ from rfl) rfl (av := [.int (nI c), .int (nI k)]) (rest := []) (m_Mo_charAt (kl K) g hI M hc (by omega) hT) wd_564 wd_561 wd_563 ws_32 wd_6 hd_Mo_charAt (by omega) (by decide) rfl rfl (Nat.le_of_ble_eq_true rfl) d_Mo_typeOver_3 (fun r9 M9 hp9 => ?_)
  obtain ⟨rfl, rfl⟩ := hp9
  refine v_r1 ?_
  refine v_int (s k) (if_pos hk) ?_
  refine v_istore_n h0 d_Mo_typeOver_6 (lv' := [(3, .int (s k)), (0, .ref (ga g 0)), (1, .int (nI c)), (2, .int (nI k))]) (lt_kn hn (by decide)) rfl ?_
  refine v_aload_n h0 d_Mo_typeOver_7 1 rfl ?_
  refine v_callV h0 hC (sR_N0 g) 0 (show 0 < 22 by omega) (show enR g 0 _ = _ from rfl) rfl (av := []) (rest := []) (m_Mo_popType (kl K) g hI M (t := t) (by first | exact h20 | exact up2_s _ _ _ _) (by omega)) wd_663 wd_660 wd_662 ws_51 wd_6 hd_Mo_popType (by omega) (by decide) rfl rfl (Nat.le_of_ble_eq_true rfl) d_Mo_typeOver_8 (fun r9 M9 hp9 => ?_)
  obtain ⟨rfl, rfl⟩ := hp9
  refine v_r1 ?_
  refine v_int (a) (by first | exact ha | (rw [up2_n _ _ (by omega)]; exact ha) | (rw [up2_n _ _ (by omega), up2_n _ _ (by omega)]; exact ha)) ?_
  refine v_istore h0 d_Mo_typeOver_11 (lv' := [(4, .int a), (3, .int (s k)), (0, .ref (ga g 0)), (1, .int (nI c)), (2, .int (nI k))]) (lt_kn hn (by decide)) rfl ?_
  refine v_iload_n h0 d_Mo_typeOver_13 1 rfl ?_
  refine v_bipush h0 d_Mo_typeOver_14 (v := nI 126) (by decide) ?_
  refine v_icmp_ne h0 d_Mo_typeOver_16 rfl (fun h16 => absurd h16 (fun z => z ((kd_1 _).mp hx))) (fun h16 => ?_)
  refine v_iload h0 d_Mo_typeOver_19 0 rfl ?_
  refine v_iconst h0 d_Mo_typeOver_21 (v := 2) (by decide) ?_
  refine v_icmp_ne h0 d_Mo_typeOver_22 rfl (fun h22 => ?_) (fun h22 => ?_)
  · skip
    refine v_iconst h0 d_Mo_typeOver_29 (v := nI 0) (by decide) ?_
    exact v_iret h0 hC hR d_Mo_typeOver_30 (⟨by unfold tv1; rw [if_neg h22]; rfl, rfl⟩)
  · skip
    refine v_iconst h0 d_Mo_typeOver_25 (v := nI 2) (by decide) ?_
    refine v_goto h0 d_Mo_typeOver_26 rfl ?_
    exact v_iret h0 hC hR d_Mo_typeOver_30 (⟨by unfold tv1; rw [if_pos h22]; rfl, rfl⟩)
set_option maxHeartbeats 4000000 in
theorem m_Mo_typeOver_5 (l : Launch) (g : Gd) (hI : sI (sR g)) (M : Me) {s : Nat → Int32} {c n k t : Nat} (hc : c < 10) (hk : k < n) (hT : TR M c s n) (hx : kd (s k) = 5) {a : Int32} (ha : M 16 (t) = a) (h20 : M 0 20 = nI (t + 1)) (ht20 : t ≤ 20) {β : Me} (hTx : TxR M β) (hR9 : RsR M β) (hk1 : k + 1 < n) (hy : kd (s (k + 1)) = 8) (hj : ¬ dfL β (nmI (s (k + 1))) 10 < 0) : CR l g y_Mo_typeOver c_Mo_typeOver 7 (some .int) 3 [.ref (ga g 0), .int (nI c), .int (nI k)] M (fun r M' => r = some (.int (tv5 a (fjB β c (nmI (s (k + 1)))))) ∧ M' = up2 M 0 20 (nI (t))) := by
  have hn24 := hT.2.1
  refine Ct.of hI (sR_N0 g) rfl (Nat.le_of_ble_eq_true rfl) (fun K h0 hC hR hkl hn => ?_)
  have hC : Cx (sR g) K gC_Mo _ := hC
  show V K (wp (sR g)) M 0 [(0, .ref (ga g 0)), (1, .int (nI c)), (2, .int (nI k))] []
  refine v_aload_n h0 d_Mo_typeOver_0 0 rfl ?_
  refine v_iload_n h0 d_Mo_typeOver_1 1 rfl ?_
  refine v_iload_n h0 d_Mo_typeOver_2 2 rfl ?_
  refine v_callV h0 hC (sR_N0 g) 0 (show 0 < 22 by omega) (show enR g 0 _ = _ from rfl) rfl (av := [.int (nI c), .int (nI k)]) (rest := []) (m_Mo_charAt (kl K) g hI M hc (by omega) hT) wd_564 wd_561 wd_563 ws_32 wd_6 hd_Mo_charAt (by omega) (by decide) rfl rfl (Nat.le_of_ble_eq_true rfl) d_Mo_typeOver_3 (fun r9 M9 hp9 => ?_)
  obtain ⟨rfl, rfl⟩ := hp9
  refine v_r1 ?_
  refine v_int (s k) (if_pos hk) ?_
  refine v_istore_n h0 d_Mo_typeOver_6 (lv' := [(3, .int (s k)), (0, .ref (ga g 0)), (1, .int (nI c)), (2, .int (nI k))]) (lt_kn hn (by decide)) rfl ?_
  refine v_aload_n h0 d_Mo_typeOver_7 1 rfl ?_
  refine v_callV h0 hC (sR_N0 g) 0 (show 0 < 22 by omega) (show enR g 0 _ = _ from rfl) rfl (av := []) (rest := []) (m_Mo_popType (kl K) g hI M (t := t) (by first | exact h20 | exact up2_s _ _ _ _) (by omega)) wd_663 wd_660 wd_662 ws_51 wd_6 hd_Mo_popType (by omega) (by decide) rfl rfl (Nat.le_of_ble_eq_true rfl) d_Mo_typeOver_8 (fun r9 M9 hp9 => ?_)
  obtain ⟨rfl, rfl⟩ := hp9
  refine v_r1 ?_
  refine v_int (a) (by first | exact ha | (rw [up2_n _ _ (by omega)]; exact ha) | (rw [up2_n _ _ (by omega), up2_n _ _ (by omega)]; exact ha)) ?_
  refine v_istore h0 d_Mo_typeOver_11 (lv' := [(4, .int a), (3, .int (s k)), (0, .ref (ga g 0)), (1, .int (nI c)), (2, .int (nI k))]) (lt_kn hn (by decide)) rfl ?_
  refine v_iload_n h0 d_Mo_typeOver_13 1 rfl ?_
  refine v_bipush h0 d_Mo_typeOver_14 (v := nI 126) (by decide) ?_
  refine v_icmp_ne h0 d_Mo_typeOver_16 rfl (fun h16 => ?_) (fun h16 => absurd h16 (fun z => absurd (hx.symm.trans ((kd_1 _).mpr z)) (by decide)))
  refine v_iload_n h0 d_Mo_typeOver_31 1 rfl ?_
  refine v_bipush h0 d_Mo_typeOver_32 (v := nI 33) (by decide) ?_
  refine v_icmp_ne h0 d_Mo_typeOver_34 rfl (fun h34 => absurd h34 (fun z => z ((kd_5 _).mp hx))) (fun h34 => ?_)
  refine v_iload h0 d_Mo_typeOver_37 0 rfl ?_
  refine v_iconst h0 d_Mo_typeOver_39 (v := 1) (by decide) ?_
  refine v_icmp_ne h0 d_Mo_typeOver_40 rfl (fun h40 => ?_) (fun h40 => ?_)
  · skip
    refine v_iconst h0 d_Mo_typeOver_66 (v := nI 0) (by decide) ?_
    exact v_iret h0 hC hR d_Mo_typeOver_67 (⟨by unfold tv5; rw [if_neg (fun z => h40 z.1)]; rfl, rfl⟩)
  · skip
    refine v_aload_n h0 d_Mo_typeOver_43 2 rfl ?_
    refine v_iload_n h0 d_Mo_typeOver_44 3 rfl ?_
    refine v_aload_n h0 d_Mo_typeOver_45 2 rfl ?_
    refine v_iload_n h0 d_Mo_typeOver_46 3 rfl ?_
    refine v_iload_n h0 d_Mo_typeOver_47 4 rfl ?_
    refine v_iconst h0 d_Mo_typeOver_48 (v := nI 1) (by decide) ?_
    refine v_iadd h0 d_Mo_typeOver_49 ?_
    refine v_int (nI (k + 1)) (nI_add k 1) ?_
    refine v_callV h0 hC (sR_N0 g) 0 (show 0 < 22 by omega) (show enR g 0 _ = _ from rfl) rfl (av := [.int (nI c), .int (nI (k + 1))]) (rest := [.int (nI c), .ref (ga g 0)]) (m_Mo_charAt (kl K) g hI _ hc (by omega) (show TR (up2 M 0 20 (nI (t))) c s n from ⟨by rw [up2_n _ _ (by omega)]; exact hT.1, hT.2.1, fun j hj => by rw [up2_n _ _ (by omega)]; exact hT.2.2.1 j hj, hT.2.2.2⟩)) wd_564 wd_561 wd_563 ws_32 wd_6 hd_Mo_charAt (by omega) (by decide) rfl rfl (Nat.le_of_ble_eq_true rfl) d_Mo_typeOver_50 (fun r9 M9 hp9 => ?_)
    obtain ⟨rfl, rfl⟩ := hp9
    refine v_r1 ?_
    refine v_int (s (k + 1)) (if_pos hk1) ?_
    refine v_bipush h0 d_Mo_typeOver_53 (v := nI 97) (by decide) ?_
    refine v_isub h0 d_Mo_typeOver_55 ?_
    refine v_int (nI (nmI (s (k + 1)))) ((nm_of hy).2) ?_
    refine v_callV h0 hC (sR_N0 g) 0 (show 0 < 22 by omega) (show enR g 0 _ = _ from rfl) rfl (av := [.int (nI c), .int (nI (nmI (s (k + 1))))]) (rest := []) (m_Mo_isFunctionName (kl K) g hI _ hc (hTx.rows (fun i hi => up2_q _ _ (by omega))) (hR9.rows (fun i _ _ => up2_q _ _ (by omega))) hj) wd_667 wd_664 wd_666 ws_52 wd_6 hd_Mo_isFunctionName (by omega) (by decide) rfl rfl (Nat.le_of_ble_eq_true rfl) d_Mo_typeOver_56 (fun r9 M9 hp9 => ?_)
    obtain ⟨rfl, rfl⟩ := hp9
    refine v_r1 ?_
    refine b_if_eq h0 d_Mo_typeOver_59 rfl (fun h59 => ?_) (fun h59 => ?_)
    · skip
      refine v_iconst h0 d_Mo_typeOver_66 (v := nI 0) (by decide) ?_
      exact v_iret h0 hC hR d_Mo_typeOver_67 (⟨by unfold tv5; rw [if_neg (fun z => by rw [h59] at z; cases z.2)]; rfl, rfl⟩)
    · skip
      refine v_iconst h0 d_Mo_typeOver_62 (v := nI 1) (by decide) ?_
      refine v_goto h0 d_Mo_typeOver_63 rfl ?_
      exact v_iret h0 hC hR d_Mo_typeOver_67 (⟨by unfold tv5; rw [if_pos ⟨h40, h59⟩]; rfl, rfl⟩)
set_option maxHeartbeats 4000000 in
theorem m_Mo_typeOver_4 (l : Launch) (g : Gd) (hI : sI (sR g)) (M : Me) {s : Nat → Int32} {c n k t : Nat} (hc : c < 10) (hk : k < n) (hT : TR M c s n) (hx : kd (s k) = 4) {a b : Int32} (ha : M 16 (t + 1) = a) (hb : M 16 (t) = b) (h20 : M 0 20 = nI (t + 2)) (ht20 : t ≤ 20)  : CR l g y_Mo_typeOver c_Mo_typeOver 7 (some .int) 3 [.ref (ga g 0), .int (nI c), .int (nI k)] M (fun r M' => r = some (.int (tv4 a b)) ∧ M' = up2 (up2 M 0 20 (nI (t + 1))) 0 20 (nI (t))) := by
  have hn24 := hT.2.1
  refine Ct.of hI (sR_N0 g) rfl (Nat.le_of_ble_eq_true rfl) (fun K h0 hC hR hkl hn => ?_)
  have hC : Cx (sR g) K gC_Mo _ := hC
  show V K (wp (sR g)) M 0 [(0, .ref (ga g 0)), (1, .int (nI c)), (2, .int (nI k))] []
  refine v_aload_n h0 d_Mo_typeOver_0 0 rfl ?_
  refine v_iload_n h0 d_Mo_typeOver_1 1 rfl ?_
  refine v_iload_n h0 d_Mo_typeOver_2 2 rfl ?_
  refine v_callV h0 hC (sR_N0 g) 0 (show 0 < 22 by omega) (show enR g 0 _ = _ from rfl) rfl (av := [.int (nI c), .int (nI k)]) (rest := []) (m_Mo_charAt (kl K) g hI M hc (by omega) hT) wd_564 wd_561 wd_563 ws_32 wd_6 hd_Mo_charAt (by omega) (by decide) rfl rfl (Nat.le_of_ble_eq_true rfl) d_Mo_typeOver_3 (fun r9 M9 hp9 => ?_)
  obtain ⟨rfl, rfl⟩ := hp9
  refine v_r1 ?_
  refine v_int (s k) (if_pos hk) ?_
  refine v_istore_n h0 d_Mo_typeOver_6 (lv' := [(3, .int (s k)), (0, .ref (ga g 0)), (1, .int (nI c)), (2, .int (nI k))]) (lt_kn hn (by decide)) rfl ?_
  refine v_aload_n h0 d_Mo_typeOver_7 1 rfl ?_
  refine v_callV h0 hC (sR_N0 g) 0 (show 0 < 22 by omega) (show enR g 0 _ = _ from rfl) rfl (av := []) (rest := []) (m_Mo_popType (kl K) g hI M (t := t + 1) (by first | exact h20 | exact up2_s _ _ _ _) (by omega)) wd_663 wd_660 wd_662 ws_51 wd_6 hd_Mo_popType (by omega) (by decide) rfl rfl (Nat.le_of_ble_eq_true rfl) d_Mo_typeOver_8 (fun r9 M9 hp9 => ?_)
  obtain ⟨rfl, rfl⟩ := hp9
  refine v_r1 ?_
  refine v_int (a) (by first | exact ha | (rw [up2_n _ _ (by omega)]; exact ha) | (rw [up2_n _ _ (by omega), up2_n _ _ (by omega)]; exact ha)) ?_
  refine v_istore h0 d_Mo_typeOver_11 (lv' := [(4, .int a), (3, .int (s k)), (0, .ref (ga g 0)), (1, .int (nI c)), (2, .int (nI k))]) (lt_kn hn (by decide)) rfl ?_
  refine v_iload_n h0 d_Mo_typeOver_13 1 rfl ?_
  refine v_bipush h0 d_Mo_typeOver_14 (v := nI 126) (by decide) ?_
  refine v_icmp_ne h0 d_Mo_typeOver_16 rfl (fun h16 => ?_) (fun h16 => absurd h16 (fun z => absurd (hx.symm.trans ((kd_1 _).mpr z)) (by decide)))
  refine v_iload_n h0 d_Mo_typeOver_31 1 rfl ?_
  refine v_bipush h0 d_Mo_typeOver_32 (v := nI 33) (by decide) ?_
  refine v_icmp_ne h0 d_Mo_typeOver_34 rfl (fun h34 => ?_) (fun h34 => absurd h34 (fun z => absurd (hx.symm.trans ((kd_5 _).mpr z)) (by decide)))
  refine v_aload_n h0 d_Mo_typeOver_68 2 rfl ?_
  refine v_callV h0 hC (sR_N0 g) 0 (show 0 < 22 by omega) (show enR g 0 _ = _ from rfl) rfl (av := []) (rest := []) (m_Mo_popType (kl K) g hI (up2 M 0 20 (nI (t + 1))) (t := t) (by first | exact h20 | exact up2_s _ _ _ _) (by omega)) wd_663 wd_660 wd_662 ws_51 wd_6 hd_Mo_popType (by omega) (by decide) rfl rfl (Nat.le_of_ble_eq_true rfl) d_Mo_typeOver_69 (fun r9 M9 hp9 => ?_)
  obtain ⟨rfl, rfl⟩ := hp9
  refine v_r1 ?_
  refine v_int (b) (by first | exact hb | (rw [up2_n _ _ (by omega)]; exact hb) | (rw [up2_n _ _ (by omega), up2_n _ _ (by omega)]; exact hb)) ?_
  refine v_istore h0 d_Mo_typeOver_72 (lv' := [(5, .int b), (4, .int a), (3, .int (s k)), (0, .ref (ga g 0)), (1, .int (nI c)), (2, .int (nI k))]) (lt_kn hn (by decide)) rfl ?_
  refine v_iload_n h0 d_Mo_typeOver_74 2 rfl ?_
  refine v_bipush h0 d_Mo_typeOver_75 (v := nI 36) (by decide) ?_
  refine v_icmp_ne h0 d_Mo_typeOver_77 rfl (fun h77 => absurd h77 (fun z => z ((kd_4 _).mp hx))) (fun h77 => ?_)
  refine v_iload h0 d_Mo_typeOver_80 1 rfl ?_
  refine v_iconst h0 d_Mo_typeOver_82 (v := 1) (by decide) ?_
  refine v_icmp_ne h0 d_Mo_typeOver_83 rfl (fun h83 => ?_) (fun h83 => ?_)
  · skip
    refine v_iconst h0 d_Mo_typeOver_91 (v := nI 0) (by decide) ?_
    exact v_iret h0 hC hR d_Mo_typeOver_92 (⟨by unfold tv4; rw [if_neg h83]; rfl, rfl⟩)
  · skip
    refine v_iload h0 d_Mo_typeOver_86 0 rfl ?_
    refine v_goto h0 d_Mo_typeOver_88 rfl ?_
    exact v_iret h0 hC hR d_Mo_typeOver_92 (⟨by unfold tv4; rw [if_pos h83], rfl⟩)
set_option maxHeartbeats 4000000 in
theorem m_Mo_typeOver_2 (l : Launch) (g : Gd) (hI : sI (sR g)) (M : Me) {s : Nat → Int32} {c n k t : Nat} (hc : c < 10) (hk : k < n) (hT : TR M c s n) (hx : kd (s k) = 2) {a b : Int32} (ha : M 16 (t + 1) = a) (hb : M 16 (t) = b) (h20 : M 0 20 = nI (t + 2)) (ht20 : t ≤ 20)  : CR l g y_Mo_typeOver c_Mo_typeOver 7 (some .int) 3 [.ref (ga g 0), .int (nI c), .int (nI k)] M (fun r M' => r = some (.int (tv2 (s k) a b)) ∧ M' = up2 (up2 M 0 20 (nI (t + 1))) 0 20 (nI (t))) := by
  have hn24 := hT.2.1
  refine Ct.of hI (sR_N0 g) rfl (Nat.le_of_ble_eq_true rfl) (fun K h0 hC hR hkl hn => ?_)
  have hC : Cx (sR g) K gC_Mo _ := hC
  show V K (wp (sR g)) M 0 [(0, .ref (ga g 0)), (1, .int (nI c)), (2, .int (nI k))] []
  refine v_aload_n h0 d_Mo_typeOver_0 0 rfl ?_
  refine v_iload_n h0 d_Mo_typeOver_1 1 rfl ?_
  refine v_iload_n h0 d_Mo_typeOver_2 2 rfl ?_
  refine v_callV h0 hC (sR_N0 g) 0 (show 0 < 22 by omega) (show enR g 0 _ = _ from rfl) rfl (av := [.int (nI c), .int (nI k)]) (rest := []) (m_Mo_charAt (kl K) g hI M hc (by omega) hT) wd_564 wd_561 wd_563 ws_32 wd_6 hd_Mo_charAt (by omega) (by decide) rfl rfl (Nat.le_of_ble_eq_true rfl) d_Mo_typeOver_3 (fun r9 M9 hp9 => ?_)
  obtain ⟨rfl, rfl⟩ := hp9
  refine v_r1 ?_
  refine v_int (s k) (if_pos hk) ?_
  refine v_istore_n h0 d_Mo_typeOver_6 (lv' := [(3, .int (s k)), (0, .ref (ga g 0)), (1, .int (nI c)), (2, .int (nI k))]) (lt_kn hn (by decide)) rfl ?_
  refine v_aload_n h0 d_Mo_typeOver_7 1 rfl ?_
  refine v_callV h0 hC (sR_N0 g) 0 (show 0 < 22 by omega) (show enR g 0 _ = _ from rfl) rfl (av := []) (rest := []) (m_Mo_popType (kl K) g hI M (t := t + 1) (by first | exact h20 | exact up2_s _ _ _ _) (by omega)) wd_663 wd_660 wd_662 ws_51 wd_6 hd_Mo_popType (by omega) (by decide) rfl rfl (Nat.le_of_ble_eq_true rfl) d_Mo_typeOver_8 (fun r9 M9 hp9 => ?_)
  obtain ⟨rfl, rfl⟩ := hp9
  refine v_r1 ?_
  refine v_int (a) (by first | exact ha | (rw [up2_n _ _ (by omega)]; exact ha) | (rw [up2_n _ _ (by omega), up2_n _ _ (by omega)]; exact ha)) ?_
  refine v_istore h0 d_Mo_typeOver_11 (lv' := [(4, .int a), (3, .int (s k)), (0, .ref (ga g 0)), (1, .int (nI c)), (2, .int (nI k))]) (lt_kn hn (by decide)) rfl ?_
  refine v_iload_n h0 d_Mo_typeOver_13 1 rfl ?_
  refine v_bipush h0 d_Mo_typeOver_14 (v := nI 126) (by decide) ?_
  refine v_icmp_ne h0 d_Mo_typeOver_16 rfl (fun h16 => ?_) (fun h16 => absurd h16 (fun z => absurd (hx.symm.trans ((kd_1 _).mpr z)) (by decide)))
  refine v_iload_n h0 d_Mo_typeOver_31 1 rfl ?_
  refine v_bipush h0 d_Mo_typeOver_32 (v := nI 33) (by decide) ?_
  refine v_icmp_ne h0 d_Mo_typeOver_34 rfl (fun h34 => ?_) (fun h34 => absurd h34 (fun z => absurd (hx.symm.trans ((kd_5 _).mpr z)) (by decide)))
  refine v_aload_n h0 d_Mo_typeOver_68 2 rfl ?_
  refine v_callV h0 hC (sR_N0 g) 0 (show 0 < 22 by omega) (show enR g 0 _ = _ from rfl) rfl (av := []) (rest := []) (m_Mo_popType (kl K) g hI (up2 M 0 20 (nI (t + 1))) (t := t) (by first | exact h20 | exact up2_s _ _ _ _) (by omega)) wd_663 wd_660 wd_662 ws_51 wd_6 hd_Mo_popType (by omega) (by decide) rfl rfl (Nat.le_of_ble_eq_true rfl) d_Mo_typeOver_69 (fun r9 M9 hp9 => ?_)
  obtain ⟨rfl, rfl⟩ := hp9
  refine v_r1 ?_
  refine v_int (b) (by first | exact hb | (rw [up2_n _ _ (by omega)]; exact hb) | (rw [up2_n _ _ (by omega), up2_n _ _ (by omega)]; exact hb)) ?_
  refine v_istore h0 d_Mo_typeOver_72 (lv' := [(5, .int b), (4, .int a), (3, .int (s k)), (0, .ref (ga g 0)), (1, .int (nI c)), (2, .int (nI k))]) (lt_kn hn (by decide)) rfl ?_
  refine v_iload_n h0 d_Mo_typeOver_74 2 rfl ?_
  refine v_bipush h0 d_Mo_typeOver_75 (v := nI 36) (by decide) ?_
  refine v_icmp_ne h0 d_Mo_typeOver_77 rfl (fun h77 => ?_) (fun h77 => absurd h77 (fun z => absurd (hx.symm.trans ((kd_4 _).mpr z)) (by decide)))
  refine v_iload_n h0 d_Mo_typeOver_93 2 rfl ?_
  refine v_bipush h0 d_Mo_typeOver_94 (v := 38) (by decide) ?_
  refine v_icmp_ne h0 d_Mo_typeOver_96 rfl (fun h96 => ?_) (fun h96 => ?_)
  · skip
    refine v_iload_n h0 d_Mo_typeOver_117 2 rfl ?_
    refine v_bipush h0 d_Mo_typeOver_118 (v := nI 63) (by decide) ?_
    refine v_icmp_ne h0 d_Mo_typeOver_120 rfl (fun h120 => ?_) (fun h120 => absurd h120 (fun z => absurd (hx.symm.trans ((kd_3 _).mpr z)) (by decide)))
    refine v_iload_n h0 d_Mo_typeOver_149 2 rfl ?_
    refine v_bipush h0 d_Mo_typeOver_150 (v := nI 35) (by decide) ?_
    refine v_icmp_ne h0 d_Mo_typeOver_152 rfl (fun h152 => ?_) (fun h152 => absurd h152 (fun z => absurd (hx.symm.trans ((kd_6 _).mpr z)) (by decide)))
    refine v_iload h0 d_Mo_typeOver_185 1 rfl ?_
    refine v_iconst h0 d_Mo_typeOver_187 (v := 1) (by decide) ?_
    refine v_icmp_ne h0 d_Mo_typeOver_188 rfl (fun h188 => ?_) (fun h188 => ?_)
    · skip
      refine v_iconst h0 d_Mo_typeOver_197 (v := nI 0) (by decide) ?_
      refine v_goto h0 d_Mo_typeOver_198 rfl ?_
      exact v_iret h0 hC hR d_Mo_typeOver_218 (⟨by unfold tv2; rw [if_neg h96, if_neg (fun z => h188 z.1)]; rfl, rfl⟩)
    · skip
      refine v_iload h0 d_Mo_typeOver_191 0 rfl ?_
      refine v_iconst h0 d_Mo_typeOver_193 (v := 1) (by decide) ?_
      refine v_icmp_eq h0 d_Mo_typeOver_194 rfl (fun h194 => ?_) (fun h194 => ?_)
      · skip
        refine v_iload_n h0 d_Mo_typeOver_201 2 rfl ?_
        refine v_bipush h0 d_Mo_typeOver_202 (v := 60) (by decide) ?_
        refine v_icmp_eq h0 d_Mo_typeOver_204 rfl (fun h204 => ?_) (fun h204 => ?_)
        · skip
          refine v_iconst h0 d_Mo_typeOver_213 (v := nI 2) (by decide) ?_
          refine v_goto h0 d_Mo_typeOver_214 rfl ?_
          exact v_iret h0 hC hR d_Mo_typeOver_218 (⟨by unfold tv2; rw [if_neg h96, if_pos ⟨h188, h194⟩, if_pos (Or.inl h204)]; rfl, rfl⟩)
        · skip
          refine v_iload_n h0 d_Mo_typeOver_207 2 rfl ?_
          refine v_bipush h0 d_Mo_typeOver_208 (v := 61) (by decide) ?_
          refine v_icmp_ne h0 d_Mo_typeOver_210 rfl (fun h210 => ?_) (fun h210 => ?_)
          · skip
            refine v_iconst h0 d_Mo_typeOver_217 (v := nI 1) (by decide) ?_
            exact v_iret h0 hC hR d_Mo_typeOver_218 (⟨by unfold tv2; rw [if_neg h96, if_pos ⟨h188, h194⟩, if_neg (fun z => z.elim h204 h210)]; rfl, rfl⟩)
          · skip
            refine v_iconst h0 d_Mo_typeOver_213 (v := nI 2) (by decide) ?_
            refine v_goto h0 d_Mo_typeOver_214 rfl ?_
            exact v_iret h0 hC hR d_Mo_typeOver_218 (⟨by unfold tv2; rw [if_neg h96, if_pos ⟨h188, h194⟩, if_pos (Or.inr h210)]; rfl, rfl⟩)
      · skip
        refine v_iconst h0 d_Mo_typeOver_197 (v := nI 0) (by decide) ?_
        refine v_goto h0 d_Mo_typeOver_198 rfl ?_
        exact v_iret h0 hC hR d_Mo_typeOver_218 (⟨by unfold tv2; rw [if_neg h96, if_neg (fun z => h194 z.2)]; rfl, rfl⟩)
  · skip
    refine v_iload h0 d_Mo_typeOver_99 1 rfl ?_
    refine v_iconst h0 d_Mo_typeOver_101 (v := 2) (by decide) ?_
    refine v_icmp_ne h0 d_Mo_typeOver_102 rfl (fun h102 => ?_) (fun h102 => ?_)
    · skip
      refine v_iconst h0 d_Mo_typeOver_115 (v := nI 0) (by decide) ?_
      exact v_iret h0 hC hR d_Mo_typeOver_116 (⟨by unfold tv2; rw [if_pos h96, if_neg (fun z => h102 z.1)]; rfl, rfl⟩)
    · skip
      refine v_iload h0 d_Mo_typeOver_105 0 rfl ?_
      refine v_iconst h0 d_Mo_typeOver_107 (v := 2) (by decide) ?_
      refine v_icmp_ne h0 d_Mo_typeOver_108 rfl (fun h108 => ?_) (fun h108 => ?_)
      · skip
        refine v_iconst h0 d_Mo_typeOver_115 (v := nI 0) (by decide) ?_
        exact v_iret h0 hC hR d_Mo_typeOver_116 (⟨by unfold tv2; rw [if_pos h96, if_neg (fun z => h108 z.2)]; rfl, rfl⟩)
      · skip
        refine v_iconst h0 d_Mo_typeOver_111 (v := nI 2) (by decide) ?_
        refine v_goto h0 d_Mo_typeOver_112 rfl ?_
        exact v_iret h0 hC hR d_Mo_typeOver_116 (⟨by unfold tv2; rw [if_pos h96, if_pos ⟨h102, h108⟩]; rfl, rfl⟩)
set_option maxHeartbeats 4000000 in
theorem m_Mo_typeOver_3 (l : Launch) (g : Gd) (hI : sI (sR g)) (M : Me) {s : Nat → Int32} {c n k t : Nat} (hc : c < 10) (hk : k < n) (hT : TR M c s n) (hx : kd (s k) = 3) {a b d : Int32} (ha : M 16 (t + 2) = a) (hb : M 16 (t + 1) = b) (hd : M 16 (t) = d) (h20 : M 0 20 = nI (t + 3)) (ht20 : t ≤ 20)  : CR l g y_Mo_typeOver c_Mo_typeOver 7 (some .int) 3 [.ref (ga g 0), .int (nI c), .int (nI k)] M (fun r M' => r = some (.int (tv3 a b d)) ∧ M' = up2 (up2 (up2 M 0 20 (nI (t + 2))) 0 20 (nI (t + 1))) 0 20 (nI (t))) := by
  have hn24 := hT.2.1
  refine Ct.of hI (sR_N0 g) rfl (Nat.le_of_ble_eq_true rfl) (fun K h0 hC hR hkl hn => ?_)
  have hC : Cx (sR g) K gC_Mo _ := hC
  show V K (wp (sR g)) M 0 [(0, .ref (ga g 0)), (1, .int (nI c)), (2, .int (nI k))] []
  refine v_aload_n h0 d_Mo_typeOver_0 0 rfl ?_
  refine v_iload_n h0 d_Mo_typeOver_1 1 rfl ?_
  refine v_iload_n h0 d_Mo_typeOver_2 2 rfl ?_
  refine v_callV h0 hC (sR_N0 g) 0 (show 0 < 22 by omega) (show enR g 0 _ = _ from rfl) rfl (av := [.int (nI c), .int (nI k)]) (rest := []) (m_Mo_charAt (kl K) g hI M hc (by omega) hT) wd_564 wd_561 wd_563 ws_32 wd_6 hd_Mo_charAt (by omega) (by decide) rfl rfl (Nat.le_of_ble_eq_true rfl) d_Mo_typeOver_3 (fun r9 M9 hp9 => ?_)
  obtain ⟨rfl, rfl⟩ := hp9
  refine v_r1 ?_
  refine v_int (s k) (if_pos hk) ?_
  refine v_istore_n h0 d_Mo_typeOver_6 (lv' := [(3, .int (s k)), (0, .ref (ga g 0)), (1, .int (nI c)), (2, .int (nI k))]) (lt_kn hn (by decide)) rfl ?_
  refine v_aload_n h0 d_Mo_typeOver_7 1 rfl ?_
  refine v_callV h0 hC (sR_N0 g) 0 (show 0 < 22 by omega) (show enR g 0 _ = _ from rfl) rfl (av := []) (rest := []) (m_Mo_popType (kl K) g hI M (t := t + 2) (by first | exact h20 | exact up2_s _ _ _ _) (by omega)) wd_663 wd_660 wd_662 ws_51 wd_6 hd_Mo_popType (by omega) (by decide) rfl rfl (Nat.le_of_ble_eq_true rfl) d_Mo_typeOver_8 (fun r9 M9 hp9 => ?_)
  obtain ⟨rfl, rfl⟩ := hp9
  refine v_r1 ?_
  refine v_int (a) (by first | exact ha | (rw [up2_n _ _ (by omega)]; exact ha) | (rw [up2_n _ _ (by omega), up2_n _ _ (by omega)]; exact ha)) ?_
  refine v_istore h0 d_Mo_typeOver_11 (lv' := [(4, .int a), (3, .int (s k)), (0, .ref (ga g 0)), (1, .int (nI c)), (2, .int (nI k))]) (lt_kn hn (by decide)) rfl ?_
  refine v_iload_n h0 d_Mo_typeOver_13 1 rfl ?_
  refine v_bipush h0 d_Mo_typeOver_14 (v := nI 126) (by decide) ?_
  refine v_icmp_ne h0 d_Mo_typeOver_16 rfl (fun h16 => ?_) (fun h16 => absurd h16 (fun z => absurd (hx.symm.trans ((kd_1 _).mpr z)) (by decide)))
  refine v_iload_n h0 d_Mo_typeOver_31 1 rfl ?_
  refine v_bipush h0 d_Mo_typeOver_32 (v := nI 33) (by decide) ?_
  refine v_icmp_ne h0 d_Mo_typeOver_34 rfl (fun h34 => ?_) (fun h34 => absurd h34 (fun z => absurd (hx.symm.trans ((kd_5 _).mpr z)) (by decide)))
  refine v_aload_n h0 d_Mo_typeOver_68 2 rfl ?_
  refine v_callV h0 hC (sR_N0 g) 0 (show 0 < 22 by omega) (show enR g 0 _ = _ from rfl) rfl (av := []) (rest := []) (m_Mo_popType (kl K) g hI (up2 M 0 20 (nI (t + 2))) (t := t + 1) (by first | exact h20 | exact up2_s _ _ _ _) (by omega)) wd_663 wd_660 wd_662 ws_51 wd_6 hd_Mo_popType (by omega) (by decide) rfl rfl (Nat.le_of_ble_eq_true rfl) d_Mo_typeOver_69 (fun r9 M9 hp9 => ?_)
  obtain ⟨rfl, rfl⟩ := hp9
  refine v_r1 ?_
  refine v_int (b) (by first | exact hb | (rw [up2_n _ _ (by omega)]; exact hb) | (rw [up2_n _ _ (by omega), up2_n _ _ (by omega)]; exact hb)) ?_
  refine v_istore h0 d_Mo_typeOver_72 (lv' := [(5, .int b), (4, .int a), (3, .int (s k)), (0, .ref (ga g 0)), (1, .int (nI c)), (2, .int (nI k))]) (lt_kn hn (by decide)) rfl ?_
  refine v_iload_n h0 d_Mo_typeOver_74 2 rfl ?_
  refine v_bipush h0 d_Mo_typeOver_75 (v := nI 36) (by decide) ?_
  refine v_icmp_ne h0 d_Mo_typeOver_77 rfl (fun h77 => ?_) (fun h77 => absurd h77 (fun z => absurd (hx.symm.trans ((kd_4 _).mpr z)) (by decide)))
  refine v_iload_n h0 d_Mo_typeOver_93 2 rfl ?_
  refine v_bipush h0 d_Mo_typeOver_94 (v := 38) (by decide) ?_
  refine v_icmp_ne h0 d_Mo_typeOver_96 rfl (fun h96 => ?_) (fun h96 => absurd h96 (fun z => absurd (hx.symm.trans ((kd_2 _).mpr (by rw [z]; decide))) (by decide)))
  refine v_iload_n h0 d_Mo_typeOver_117 2 rfl ?_
  refine v_bipush h0 d_Mo_typeOver_118 (v := nI 63) (by decide) ?_
  refine v_icmp_ne h0 d_Mo_typeOver_120 rfl (fun h120 => absurd h120 (fun z => z ((kd_3 _).mp hx))) (fun h120 => ?_)
  refine v_aload_n h0 d_Mo_typeOver_123 3 rfl ?_
  refine v_callV h0 hC (sR_N0 g) 0 (show 0 < 22 by omega) (show enR g 0 _ = _ from rfl) rfl (av := []) (rest := []) (m_Mo_popType (kl K) g hI (up2 (up2 M 0 20 (nI (t + 2))) 0 20 (nI (t + 1))) (t := t) (by first | exact h20 | exact up2_s _ _ _ _) (by omega)) wd_663 wd_660 wd_662 ws_51 wd_6 hd_Mo_popType (by omega) (by decide) rfl rfl (Nat.le_of_ble_eq_true rfl) d_Mo_typeOver_124 (fun r9 M9 hp9 => ?_)
  obtain ⟨rfl, rfl⟩ := hp9
  refine v_r1 ?_
  refine v_int (d) (by first | exact hd | (rw [up2_n _ _ (by omega)]; exact hd) | (rw [up2_n _ _ (by omega), up2_n _ _ (by omega)]; exact hd)) ?_
  refine v_istore h0 d_Mo_typeOver_127 (lv' := [(6, .int d), (5, .int b), (4, .int a), (3, .int (s k)), (0, .ref (ga g 0)), (1, .int (nI c)), (2, .int (nI k))]) (lt_kn hn (by decide)) rfl ?_
  refine v_iload h0 d_Mo_typeOver_129 2 rfl ?_
  refine v_iconst h0 d_Mo_typeOver_131 (v := 2) (by decide) ?_
  refine v_icmp_ne h0 d_Mo_typeOver_132 rfl (fun h132 => ?_) (fun h132 => ?_)
  · skip
    refine v_iconst h0 d_Mo_typeOver_147 (v := nI 0) (by decide) ?_
    exact v_iret h0 hC hR d_Mo_typeOver_148 (⟨by unfold tv3; rw [if_neg (fun z => h132 z.1)]; rfl, rfl⟩)
  · skip
    refine v_iload h0 d_Mo_typeOver_135 1 rfl ?_
    refine v_iload h0 d_Mo_typeOver_137 0 rfl ?_
    refine v_icmp_ne h0 d_Mo_typeOver_139 rfl (fun h139 => ?_) (fun h139 => ?_)
    · skip
      refine v_iconst h0 d_Mo_typeOver_147 (v := nI 0) (by decide) ?_
      exact v_iret h0 hC hR d_Mo_typeOver_148 (⟨by unfold tv3; rw [if_neg (fun z => h139 z.2)]; rfl, rfl⟩)
    · skip
      refine v_iload h0 d_Mo_typeOver_142 1 rfl ?_
      refine v_goto h0 d_Mo_typeOver_144 rfl ?_
      exact v_iret h0 hC hR d_Mo_typeOver_148 (⟨by unfold tv3; rw [if_pos ⟨h132, h139⟩], rfl⟩)
set_option maxHeartbeats 4000000 in
theorem m_Mo_typeOver_6 (l : Launch) (g : Gd) (hI : sI (sR g)) (M : Me) {s : Nat → Int32} {c n k t : Nat} (hc : c < 10) (hk : k < n) (hT : TR M c s n) (hx : kd (s k) = 6) {a b d : Int32} (ha : M 16 (t + 2) = a) (hb : M 16 (t + 1) = b) (hd : M 16 (t) = d) (h20 : M 0 20 = nI (t + 3)) (ht20 : t ≤ 20)  : CR l g y_Mo_typeOver c_Mo_typeOver 7 (some .int) 3 [.ref (ga g 0), .int (nI c), .int (nI k)] M (fun r M' => r = some (.int (tv6 a b d)) ∧ M' = up2 (up2 (up2 M 0 20 (nI (t + 2))) 0 20 (nI (t + 1))) 0 20 (nI (t))) := by
  have hn24 := hT.2.1
  refine Ct.of hI (sR_N0 g) rfl (Nat.le_of_ble_eq_true rfl) (fun K h0 hC hR hkl hn => ?_)
  have hC : Cx (sR g) K gC_Mo _ := hC
  show V K (wp (sR g)) M 0 [(0, .ref (ga g 0)), (1, .int (nI c)), (2, .int (nI k))] []
  refine v_aload_n h0 d_Mo_typeOver_0 0 rfl ?_
  refine v_iload_n h0 d_Mo_typeOver_1 1 rfl ?_
  refine v_iload_n h0 d_Mo_typeOver_2 2 rfl ?_
  refine v_callV h0 hC (sR_N0 g) 0 (show 0 < 22 by omega) (show enR g 0 _ = _ from rfl) rfl (av := [.int (nI c), .int (nI k)]) (rest := []) (m_Mo_charAt (kl K) g hI M hc (by omega) hT) wd_564 wd_561 wd_563 ws_32 wd_6 hd_Mo_charAt (by omega) (by decide) rfl rfl (Nat.le_of_ble_eq_true rfl) d_Mo_typeOver_3 (fun r9 M9 hp9 => ?_)
  obtain ⟨rfl, rfl⟩ := hp9
  refine v_r1 ?_
  refine v_int (s k) (if_pos hk) ?_
  refine v_istore_n h0 d_Mo_typeOver_6 (lv' := [(3, .int (s k)), (0, .ref (ga g 0)), (1, .int (nI c)), (2, .int (nI k))]) (lt_kn hn (by decide)) rfl ?_
  refine v_aload_n h0 d_Mo_typeOver_7 1 rfl ?_
  refine v_callV h0 hC (sR_N0 g) 0 (show 0 < 22 by omega) (show enR g 0 _ = _ from rfl) rfl (av := []) (rest := []) (m_Mo_popType (kl K) g hI M (t := t + 2) (by first | exact h20 | exact up2_s _ _ _ _) (by omega)) wd_663 wd_660 wd_662 ws_51 wd_6 hd_Mo_popType (by omega) (by decide) rfl rfl (Nat.le_of_ble_eq_true rfl) d_Mo_typeOver_8 (fun r9 M9 hp9 => ?_)
  obtain ⟨rfl, rfl⟩ := hp9
  refine v_r1 ?_
  refine v_int (a) (by first | exact ha | (rw [up2_n _ _ (by omega)]; exact ha) | (rw [up2_n _ _ (by omega), up2_n _ _ (by omega)]; exact ha)) ?_
  refine v_istore h0 d_Mo_typeOver_11 (lv' := [(4, .int a), (3, .int (s k)), (0, .ref (ga g 0)), (1, .int (nI c)), (2, .int (nI k))]) (lt_kn hn (by decide)) rfl ?_
  refine v_iload_n h0 d_Mo_typeOver_13 1 rfl ?_
  refine v_bipush h0 d_Mo_typeOver_14 (v := nI 126) (by decide) ?_
  refine v_icmp_ne h0 d_Mo_typeOver_16 rfl (fun h16 => ?_) (fun h16 => absurd h16 (fun z => absurd (hx.symm.trans ((kd_1 _).mpr z)) (by decide)))
  refine v_iload_n h0 d_Mo_typeOver_31 1 rfl ?_
  refine v_bipush h0 d_Mo_typeOver_32 (v := nI 33) (by decide) ?_
  refine v_icmp_ne h0 d_Mo_typeOver_34 rfl (fun h34 => ?_) (fun h34 => absurd h34 (fun z => absurd (hx.symm.trans ((kd_5 _).mpr z)) (by decide)))
  refine v_aload_n h0 d_Mo_typeOver_68 2 rfl ?_
  refine v_callV h0 hC (sR_N0 g) 0 (show 0 < 22 by omega) (show enR g 0 _ = _ from rfl) rfl (av := []) (rest := []) (m_Mo_popType (kl K) g hI (up2 M 0 20 (nI (t + 2))) (t := t + 1) (by first | exact h20 | exact up2_s _ _ _ _) (by omega)) wd_663 wd_660 wd_662 ws_51 wd_6 hd_Mo_popType (by omega) (by decide) rfl rfl (Nat.le_of_ble_eq_true rfl) d_Mo_typeOver_69 (fun r9 M9 hp9 => ?_)
  obtain ⟨rfl, rfl⟩ := hp9
  refine v_r1 ?_
  refine v_int (b) (by first | exact hb | (rw [up2_n _ _ (by omega)]; exact hb) | (rw [up2_n _ _ (by omega), up2_n _ _ (by omega)]; exact hb)) ?_
  refine v_istore h0 d_Mo_typeOver_72 (lv' := [(5, .int b), (4, .int a), (3, .int (s k)), (0, .ref (ga g 0)), (1, .int (nI c)), (2, .int (nI k))]) (lt_kn hn (by decide)) rfl ?_
  refine v_iload_n h0 d_Mo_typeOver_74 2 rfl ?_
  refine v_bipush h0 d_Mo_typeOver_75 (v := nI 36) (by decide) ?_
  refine v_icmp_ne h0 d_Mo_typeOver_77 rfl (fun h77 => ?_) (fun h77 => absurd h77 (fun z => absurd (hx.symm.trans ((kd_4 _).mpr z)) (by decide)))
  refine v_iload_n h0 d_Mo_typeOver_93 2 rfl ?_
  refine v_bipush h0 d_Mo_typeOver_94 (v := 38) (by decide) ?_
  refine v_icmp_ne h0 d_Mo_typeOver_96 rfl (fun h96 => ?_) (fun h96 => absurd h96 (fun z => absurd (hx.symm.trans ((kd_2 _).mpr (by rw [z]; decide))) (by decide)))
  refine v_iload_n h0 d_Mo_typeOver_117 2 rfl ?_
  refine v_bipush h0 d_Mo_typeOver_118 (v := nI 63) (by decide) ?_
  refine v_icmp_ne h0 d_Mo_typeOver_120 rfl (fun h120 => ?_) (fun h120 => absurd h120 (fun z => absurd (hx.symm.trans ((kd_3 _).mpr z)) (by decide)))
  refine v_iload_n h0 d_Mo_typeOver_149 2 rfl ?_
  refine v_bipush h0 d_Mo_typeOver_150 (v := nI 35) (by decide) ?_
  refine v_icmp_ne h0 d_Mo_typeOver_152 rfl (fun h152 => absurd h152 (fun z => z ((kd_6 _).mp hx))) (fun h152 => ?_)
  refine v_aload_n h0 d_Mo_typeOver_155 3 rfl ?_
  refine v_callV h0 hC (sR_N0 g) 0 (show 0 < 22 by omega) (show enR g 0 _ = _ from rfl) rfl (av := []) (rest := []) (m_Mo_popType (kl K) g hI (up2 (up2 M 0 20 (nI (t + 2))) 0 20 (nI (t + 1))) (t := t) (by first | exact h20 | exact up2_s _ _ _ _) (by omega)) wd_663 wd_660 wd_662 ws_51 wd_6 hd_Mo_popType (by omega) (by decide) rfl rfl (Nat.le_of_ble_eq_true rfl) d_Mo_typeOver_156 (fun r9 M9 hp9 => ?_)
  obtain ⟨rfl, rfl⟩ := hp9
  refine v_r1 ?_
  refine v_int (d) (by first | exact hd | (rw [up2_n _ _ (by omega)]; exact hd) | (rw [up2_n _ _ (by omega), up2_n _ _ (by omega)]; exact hd)) ?_
  refine v_istore h0 d_Mo_typeOver_159 (lv' := [(6, .int d), (5, .int b), (4, .int a), (3, .int (s k)), (0, .ref (ga g 0)), (1, .int (nI c)), (2, .int (nI k))]) (lt_kn hn (by decide)) rfl ?_
  refine v_iload h0 d_Mo_typeOver_161 2 rfl ?_
  refine v_iconst h0 d_Mo_typeOver_163 (v := 1) (by decide) ?_
  refine v_icmp_ne h0 d_Mo_typeOver_164 rfl (fun h164 => ?_) (fun h164 => ?_)
  · skip
    refine v_iconst h0 d_Mo_typeOver_183 (v := nI 0) (by decide) ?_
    exact v_iret h0 hC hR d_Mo_typeOver_184 (⟨by unfold tv6; rw [if_neg (fun z => h164 z.1)]; rfl, rfl⟩)
  · skip
    refine v_iload h0 d_Mo_typeOver_167 1 rfl ?_
    refine v_iconst h0 d_Mo_typeOver_169 (v := 1) (by decide) ?_
    refine v_icmp_ne h0 d_Mo_typeOver_170 rfl (fun h170 => ?_) (fun h170 => ?_)
    · skip
      refine v_iconst h0 d_Mo_typeOver_183 (v := nI 0) (by decide) ?_
      exact v_iret h0 hC hR d_Mo_typeOver_184 (⟨by unfold tv6; rw [if_neg (fun z => h170 z.2.1)]; rfl, rfl⟩)
    · skip
      refine v_iload h0 d_Mo_typeOver_173 0 rfl ?_
      refine v_iconst h0 d_Mo_typeOver_175 (v := 1) (by decide) ?_
      refine v_icmp_ne h0 d_Mo_typeOver_176 rfl (fun h176 => ?_) (fun h176 => ?_)
      · skip
        refine v_iconst h0 d_Mo_typeOver_183 (v := nI 0) (by decide) ?_
        exact v_iret h0 hC hR d_Mo_typeOver_184 (⟨by unfold tv6; rw [if_neg (fun z => h176 z.2.2)]; rfl, rfl⟩)
      · skip
        refine v_iconst h0 d_Mo_typeOver_179 (v := nI 1) (by decide) ?_
        refine v_goto h0 d_Mo_typeOver_180 rfl ?_
        exact v_iret h0 hC hR d_Mo_typeOver_184 (⟨by unfold tv6; rw [if_pos ⟨h164, h170, h176⟩]; rfl, rfl⟩)
