/-! THE REFERENCE'S TYPES: the loop -/
set_option maxHeartbeats 4000000 in
theorem tq_lab {K : Cf} {g : Gd} (hI : sI (sR g)) (h0 : C0 K c_Mo_typeOf) (hC : Cx (sR g) K gC_Mo 4) (hn : kn K = 7) {M : Me} {c n p f : Nat} {gd : Bool} {s : Nat → Int32} (hc : c < 10) (hT : TR M c s n) (hp : p < n) (hf : f ≤ p) (hl : lbR M c p = 1) (kk : V K (wp (sR g)) M 31 [(4, .int (pdI p)), (3, .int (nI f)), (2, .int (bI gd)), (0, .ref (ga g 0)), (1, .int (nI c))] []) : V K (wp (sR g)) M 31 [(4, .int (pdI (p + 1))), (3, .int (nI f)), (2, .int (bI gd)), (0, .ref (ga g 0)), (1, .int (nI c))] [] := by
  have hn24 := hT.2.1
  refine v_eq (?_ : V K (wp (sR g)) M 31 [(4, .int (nI p)), (3, .int (nI f)), (2, .int (bI gd)), (0, .ref (ga g 0)), (1, .int (nI c))] []) rfl rfl (by rw [pd_s]) rfl
  refine v_iload h0 d_Mo_typeOf_31 0 rfl ?_
  refine v_iload_n h0 d_Mo_typeOf_33 1 rfl ?_
  refine n_icmp_lt h0 (by omega) (by omega) d_Mo_typeOf_34 rfl (fun h34 => absurd h34 (by omega)) (fun h34 => ?_)
  refine v_aload_n h0 d_Mo_typeOf_37 3 rfl ?_
  refine g_Mo_label_ h0 hC wd_454 d_Mo_typeOf_38 ?_
  refine v_bipush h0 d_Mo_typeOf_41 (v := nI 24) (by decide) ?_
  refine v_iload_n h0 d_Mo_typeOf_43 4 rfl ?_
  refine v_imul h0 d_Mo_typeOf_44 ?_
  refine v_int (nI (24 * c)) (pk_mul 24 c) ?_
  refine v_iload h0 d_Mo_typeOf_45 0 rfl ?_
  refine v_iadd h0 d_Mo_typeOf_47 ?_
  refine v_int (nI (24 * c + p)) (nI_add (24 * c) p) ?_
  refine a_Mo_label_ h0 hC (24 * c + p) (rfl) (by omega) d_Mo_typeOf_48 ?_
  refine v_int (1) (hl) ?_
  refine v_if_ne h0 d_Mo_typeOf_49 rfl (fun h49 => ?_) (fun h49 => absurd h49 (by decide))
  refine v_iinc h0 d_Mo_typeOf_148 (lv' := [(4, .int (pdI p)), (3, .int (nI f)), (2, .int (bI gd)), (0, .ref (ga g 0)), (1, .int (nI c))]) 0 rfl (pd_inc p) (lt_kn hn (by decide)) rfl ?_
  exact v_goto h0 d_Mo_typeOf_151 rfl kk
set_option maxHeartbeats 4000000 in
theorem tq_7 {K : Cf} {g : Gd} (hI : sI (sR g)) (h0 : C0 K c_Mo_typeOf) (hC : Cx (sR g) K gC_Mo 4) (hn : kn K = 7) {M : Me} {c n p f t : Nat} {gd : Bool} {s : Nat → Int32} (hc : c < 10) (hT : TR M c s n) (hp : p < n) (hf : f ≤ p) (hl : lbR M c p = 0) (hx : kd (s p) = 7) (h20 : M 0 20 = nI t) (ht20 : t ≤ 20) (kk : V K (wp (sR g)) (ptM (M) t (nI 1)) 31 [(4, .int (pdI p)), (3, .int (nI f)), (2, .int (bI (gd && decide (¬ nI 1 = 0)))), (0, .ref (ga g 0)), (1, .int (nI c))] []) : V K (wp (sR g)) M 31 [(4, .int (pdI (p + 1))), (3, .int (nI f)), (2, .int (bI gd)), (0, .ref (ga g 0)), (1, .int (nI c))] [] := by
  have hn24 := hT.2.1
  refine v_eq (?_ : V K (wp (sR g)) M 31 [(4, .int (nI p)), (3, .int (nI f)), (2, .int (bI gd)), (0, .ref (ga g 0)), (1, .int (nI c))] []) rfl rfl (by rw [pd_s]) rfl
  refine v_iload h0 d_Mo_typeOf_31 0 rfl ?_
  refine v_iload_n h0 d_Mo_typeOf_33 1 rfl ?_
  refine n_icmp_lt h0 (by omega) (by omega) d_Mo_typeOf_34 rfl (fun h34 => absurd h34 (by omega)) (fun h34 => ?_)
  refine v_aload_n h0 d_Mo_typeOf_37 3 rfl ?_
  refine g_Mo_label_ h0 hC wd_454 d_Mo_typeOf_38 ?_
  refine v_bipush h0 d_Mo_typeOf_41 (v := nI 24) (by decide) ?_
  refine v_iload_n h0 d_Mo_typeOf_43 4 rfl ?_
  refine v_imul h0 d_Mo_typeOf_44 ?_
  refine v_int (nI (24 * c)) (pk_mul 24 c) ?_
  refine v_iload h0 d_Mo_typeOf_45 0 rfl ?_
  refine v_iadd h0 d_Mo_typeOf_47 ?_
  refine v_int (nI (24 * c + p)) (nI_add (24 * c) p) ?_
  refine a_Mo_label_ h0 hC (24 * c + p) (rfl) (by omega) d_Mo_typeOf_48 ?_
  refine v_int (0) (hl) ?_
  refine v_if_ne h0 d_Mo_typeOf_49 rfl (fun h49 => absurd h49 (fun z => z rfl)) (fun h49 => ?_)
  refine v_aload_n h0 d_Mo_typeOf_52 3 rfl ?_
  refine v_iload_n h0 d_Mo_typeOf_53 4 rfl ?_
  refine v_iload h0 d_Mo_typeOf_54 0 rfl ?_
  refine v_callV h0 hC (sR_N0 g) 0 (show 0 < 22 by omega) (show enR g 0 _ = _ from rfl) rfl (av := [.int (nI c), .int (nI p)]) (rest := []) (m_Mo_charAt (kl K) g hI M hc (by omega) hT) wd_564 wd_561 wd_563 ws_32 wd_6 hd_Mo_charAt (by omega) (by decide) rfl rfl (Nat.le_of_ble_eq_true rfl) d_Mo_typeOf_56 (fun r9 M9 hp9 => ?_)
  obtain ⟨rfl, rfl⟩ := hp9
  refine v_r1 ?_
  refine v_int (s p) (if_pos hp) ?_
  refine v_istore h0 d_Mo_typeOf_59 (lv' := [(5, .int (s p)), (4, .int (nI p)), (3, .int (nI f)), (2, .int (bI gd)), (0, .ref (ga g 0)), (1, .int (nI c))]) (lt_kn hn (by decide)) rfl ?_
  refine v_iload h0 d_Mo_typeOf_61 0 rfl ?_
  refine v_callS h0 hC (sR_N0 g) (av := [.int (s p)]) (rest := []) (m_Mo_isDigit (kl K) g hI _ _) wd_574 wd_572 wd_573 wd_6 hd_Mo_isDigit (by omega) (by decide) rfl rfl (Nat.le_of_ble_eq_true rfl) d_Mo_typeOf_63 (fun r9 M9 hp9 => ?_)
  obtain ⟨rfl, rfl⟩ := hp9
  refine v_r1 ?_
  refine b_if_ne h0 d_Mo_typeOf_66 rfl (fun h66 => ?_) (fun h66 => absurd h66 (by unfold kdB; rw [hx]; decide))
  refine v_iconst h0 d_Mo_typeOf_77 (v := nI 1) (by decide) ?_
  refine v_goto h0 d_Mo_typeOf_78 rfl ?_
  refine v_istore h0 d_Mo_typeOf_125 (lv' := [(6, .int (nI 1)), (5, .int (s p)), (4, .int (nI p)), (3, .int (nI f)), (2, .int (bI gd)), (0, .ref (ga g 0)), (1, .int (nI c))]) (lt_kn hn (by decide)) rfl ?_
  refine v_iload_n h0 d_Mo_typeOf_127 4 rfl ?_
  refine b_if_eq h0 d_Mo_typeOf_128 rfl (fun h128 => ?_) (fun h128 => ?_)
  · skip
    refine v_iconst h0 d_Mo_typeOf_140 (v := nI 0) (by decide) ?_
    refine v_istore_n h0 d_Mo_typeOf_141 (lv' := [(2, .int (nI 0)), (6, .int (nI 1)), (5, .int (s p)), (4, .int (nI p)), (3, .int (nI f)), (0, .ref (ga g 0)), (1, .int (nI c))]) (lt_kn hn (by decide)) rfl ?_
    refine v_aload_n h0 d_Mo_typeOf_142 5 rfl ?_
    refine v_iload h0 d_Mo_typeOf_143 1 rfl ?_
    refine v_callV h0 hC (sR_N0 g) 0 (show 0 < 22 by omega) (show enR g 0 _ = _ from rfl) rfl (av := [.int (nI 1)]) (rest := []) (m_Mo_pushType (kl K) g hI M (t := t) _ (by first | exact h20 | exact up2_s _ _ _ _) (by omega)) wd_671 wd_668 wd_670 ws_53 wd_6 hd_Mo_pushType (by omega) (by decide) rfl rfl (Nat.le_of_ble_eq_true rfl) d_Mo_typeOf_145 (fun r9 M9 hp9 => ?_)
    obtain ⟨rfl, rfl⟩ := hp9
    refine v_r0 ?_
    refine v_iinc h0 d_Mo_typeOf_148 (lv' := [(4, .int (pdI p)), (2, .int (nI 0)), (6, .int (nI 1)), (5, .int (s p)), (3, .int (nI f)), (0, .ref (ga g 0)), (1, .int (nI c))]) 3 rfl (pd_inc p) (lt_kn hn (by decide)) rfl ?_
    refine v_goto h0 d_Mo_typeOf_151 rfl ?_
    refine v_sub [0, 4, 1, 5, 6] rfl ?_
    refine v_eq kk rfl rfl (by rw [h128, Bool.false_and]; rfl) rfl
  · skip
    refine v_iload h0 d_Mo_typeOf_131 0 rfl ?_
    refine v_if_eq h0 d_Mo_typeOf_133 rfl (fun h133 => absurd h133 (by decide)) (fun h133 => ?_)
    refine v_iconst h0 d_Mo_typeOf_136 (v := nI 1) (by decide) ?_
    refine v_goto h0 d_Mo_typeOf_137 rfl ?_
    refine v_istore_n h0 d_Mo_typeOf_141 (lv' := [(2, .int (nI 1)), (6, .int (nI 1)), (5, .int (s p)), (4, .int (nI p)), (3, .int (nI f)), (0, .ref (ga g 0)), (1, .int (nI c))]) (lt_kn hn (by decide)) rfl ?_
    refine v_aload_n h0 d_Mo_typeOf_142 5 rfl ?_
    refine v_iload h0 d_Mo_typeOf_143 1 rfl ?_
    refine v_callV h0 hC (sR_N0 g) 0 (show 0 < 22 by omega) (show enR g 0 _ = _ from rfl) rfl (av := [.int (nI 1)]) (rest := []) (m_Mo_pushType (kl K) g hI M (t := t) _ (by first | exact h20 | exact up2_s _ _ _ _) (by omega)) wd_671 wd_668 wd_670 ws_53 wd_6 hd_Mo_pushType (by omega) (by decide) rfl rfl (Nat.le_of_ble_eq_true rfl) d_Mo_typeOf_145 (fun r9 M9 hp9 => ?_)
    obtain ⟨rfl, rfl⟩ := hp9
    refine v_r0 ?_
    refine v_iinc h0 d_Mo_typeOf_148 (lv' := [(4, .int (pdI p)), (2, .int (nI 1)), (6, .int (nI 1)), (5, .int (s p)), (3, .int (nI f)), (0, .ref (ga g 0)), (1, .int (nI c))]) 3 rfl (pd_inc p) (lt_kn hn (by decide)) rfl ?_
    refine v_goto h0 d_Mo_typeOf_151 rfl ?_
    refine v_sub [0, 4, 1, 5, 6] rfl ?_
    refine v_eq kk rfl rfl (by rw [h128, Bool.true_and]; rfl) rfl
set_option maxHeartbeats 4000000 in
theorem tq_9 {K : Cf} {g : Gd} (hI : sI (sR g)) (h0 : C0 K c_Mo_typeOf) (hC : Cx (sR g) K gC_Mo 4) (hn : kn K = 7) {M : Me} {c n p f t : Nat} {gd : Bool} {s : Nat → Int32} (hc : c < 10) (hT : TR M c s n) (hp : p < n) (hf : f ≤ p) (hl : lbR M c p = 0) (hx : kd (s p) = 9) (h20 : M 0 20 = nI t) (ht20 : t ≤ 20) (kk : V K (wp (sR g)) (ptM (M) t (nI 1)) 31 [(4, .int (pdI p)), (3, .int (nI f)), (2, .int (bI (gd && decide (¬ nI 1 = 0)))), (0, .ref (ga g 0)), (1, .int (nI c))] []) : V K (wp (sR g)) M 31 [(4, .int (pdI (p + 1))), (3, .int (nI f)), (2, .int (bI gd)), (0, .ref (ga g 0)), (1, .int (nI c))] [] := by
  have hn24 := hT.2.1
  refine v_eq (?_ : V K (wp (sR g)) M 31 [(4, .int (nI p)), (3, .int (nI f)), (2, .int (bI gd)), (0, .ref (ga g 0)), (1, .int (nI c))] []) rfl rfl (by rw [pd_s]) rfl
  refine v_iload h0 d_Mo_typeOf_31 0 rfl ?_
  refine v_iload_n h0 d_Mo_typeOf_33 1 rfl ?_
  refine n_icmp_lt h0 (by omega) (by omega) d_Mo_typeOf_34 rfl (fun h34 => absurd h34 (by omega)) (fun h34 => ?_)
  refine v_aload_n h0 d_Mo_typeOf_37 3 rfl ?_
  refine g_Mo_label_ h0 hC wd_454 d_Mo_typeOf_38 ?_
  refine v_bipush h0 d_Mo_typeOf_41 (v := nI 24) (by decide) ?_
  refine v_iload_n h0 d_Mo_typeOf_43 4 rfl ?_
  refine v_imul h0 d_Mo_typeOf_44 ?_
  refine v_int (nI (24 * c)) (pk_mul 24 c) ?_
  refine v_iload h0 d_Mo_typeOf_45 0 rfl ?_
  refine v_iadd h0 d_Mo_typeOf_47 ?_
  refine v_int (nI (24 * c + p)) (nI_add (24 * c) p) ?_
  refine a_Mo_label_ h0 hC (24 * c + p) (rfl) (by omega) d_Mo_typeOf_48 ?_
  refine v_int (0) (hl) ?_
  refine v_if_ne h0 d_Mo_typeOf_49 rfl (fun h49 => absurd h49 (fun z => z rfl)) (fun h49 => ?_)
  refine v_aload_n h0 d_Mo_typeOf_52 3 rfl ?_
  refine v_iload_n h0 d_Mo_typeOf_53 4 rfl ?_
  refine v_iload h0 d_Mo_typeOf_54 0 rfl ?_
  refine v_callV h0 hC (sR_N0 g) 0 (show 0 < 22 by omega) (show enR g 0 _ = _ from rfl) rfl (av := [.int (nI c), .int (nI p)]) (rest := []) (m_Mo_charAt (kl K) g hI M hc (by omega) hT) wd_564 wd_561 wd_563 ws_32 wd_6 hd_Mo_charAt (by omega) (by decide) rfl rfl (Nat.le_of_ble_eq_true rfl) d_Mo_typeOf_56 (fun r9 M9 hp9 => ?_)
  obtain ⟨rfl, rfl⟩ := hp9
  refine v_r1 ?_
  refine v_int (s p) (if_pos hp) ?_
  refine v_istore h0 d_Mo_typeOf_59 (lv' := [(5, .int (s p)), (4, .int (nI p)), (3, .int (nI f)), (2, .int (bI gd)), (0, .ref (ga g 0)), (1, .int (nI c))]) (lt_kn hn (by decide)) rfl ?_
  refine v_iload h0 d_Mo_typeOf_61 0 rfl ?_
  refine v_callS h0 hC (sR_N0 g) (av := [.int (s p)]) (rest := []) (m_Mo_isDigit (kl K) g hI _ _) wd_574 wd_572 wd_573 wd_6 hd_Mo_isDigit (by omega) (by decide) rfl rfl (Nat.le_of_ble_eq_true rfl) d_Mo_typeOf_63 (fun r9 M9 hp9 => ?_)
  obtain ⟨rfl, rfl⟩ := hp9
  refine v_r1 ?_
  refine b_if_ne h0 d_Mo_typeOf_66 rfl (fun h66 => absurd h66 (by unfold kdB; rw [hx]; decide)) (fun h66 => ?_)
  refine v_iload h0 d_Mo_typeOf_69 0 rfl ?_
  refine v_callS h0 hC (sR_N0 g) (av := [.int (s p)]) (rest := []) (m_Mo_isLocal (kl K) g hI _ _) wd_567 wd_565 wd_566 wd_6 hd_Mo_isLocal (by omega) (by decide) rfl rfl (Nat.le_of_ble_eq_true rfl) d_Mo_typeOf_71 (fun r9 M9 hp9 => ?_)
  obtain ⟨rfl, rfl⟩ := hp9
  refine v_r1 ?_
  refine b_if_eq h0 d_Mo_typeOf_74 rfl (fun h74 => absurd h74 (by unfold kdB; rw [hx]; decide)) (fun h74 => ?_)
  refine v_iconst h0 d_Mo_typeOf_77 (v := nI 1) (by decide) ?_
  refine v_goto h0 d_Mo_typeOf_78 rfl ?_
  refine v_istore h0 d_Mo_typeOf_125 (lv' := [(6, .int (nI 1)), (5, .int (s p)), (4, .int (nI p)), (3, .int (nI f)), (2, .int (bI gd)), (0, .ref (ga g 0)), (1, .int (nI c))]) (lt_kn hn (by decide)) rfl ?_
  refine v_iload_n h0 d_Mo_typeOf_127 4 rfl ?_
  refine b_if_eq h0 d_Mo_typeOf_128 rfl (fun h128 => ?_) (fun h128 => ?_)
  · skip
    refine v_iconst h0 d_Mo_typeOf_140 (v := nI 0) (by decide) ?_
    refine v_istore_n h0 d_Mo_typeOf_141 (lv' := [(2, .int (nI 0)), (6, .int (nI 1)), (5, .int (s p)), (4, .int (nI p)), (3, .int (nI f)), (0, .ref (ga g 0)), (1, .int (nI c))]) (lt_kn hn (by decide)) rfl ?_
    refine v_aload_n h0 d_Mo_typeOf_142 5 rfl ?_
    refine v_iload h0 d_Mo_typeOf_143 1 rfl ?_
    refine v_callV h0 hC (sR_N0 g) 0 (show 0 < 22 by omega) (show enR g 0 _ = _ from rfl) rfl (av := [.int (nI 1)]) (rest := []) (m_Mo_pushType (kl K) g hI M (t := t) _ (by first | exact h20 | exact up2_s _ _ _ _) (by omega)) wd_671 wd_668 wd_670 ws_53 wd_6 hd_Mo_pushType (by omega) (by decide) rfl rfl (Nat.le_of_ble_eq_true rfl) d_Mo_typeOf_145 (fun r9 M9 hp9 => ?_)
    obtain ⟨rfl, rfl⟩ := hp9
    refine v_r0 ?_
    refine v_iinc h0 d_Mo_typeOf_148 (lv' := [(4, .int (pdI p)), (2, .int (nI 0)), (6, .int (nI 1)), (5, .int (s p)), (3, .int (nI f)), (0, .ref (ga g 0)), (1, .int (nI c))]) 3 rfl (pd_inc p) (lt_kn hn (by decide)) rfl ?_
    refine v_goto h0 d_Mo_typeOf_151 rfl ?_
    refine v_sub [0, 4, 1, 5, 6] rfl ?_
    refine v_eq kk rfl rfl (by rw [h128, Bool.false_and]; rfl) rfl
  · skip
    refine v_iload h0 d_Mo_typeOf_131 0 rfl ?_
    refine v_if_eq h0 d_Mo_typeOf_133 rfl (fun h133 => absurd h133 (by decide)) (fun h133 => ?_)
    refine v_iconst h0 d_Mo_typeOf_136 (v := nI 1) (by decide) ?_
    refine v_goto h0 d_Mo_typeOf_137 rfl ?_
    refine v_istore_n h0 d_Mo_typeOf_141 (lv' := [(2, .int (nI 1)), (6, .int (nI 1)), (5, .int (s p)), (4, .int (nI p)), (3, .int (nI f)), (0, .ref (ga g 0)), (1, .int (nI c))]) (lt_kn hn (by decide)) rfl ?_
    refine v_aload_n h0 d_Mo_typeOf_142 5 rfl ?_
    refine v_iload h0 d_Mo_typeOf_143 1 rfl ?_
    refine v_callV h0 hC (sR_N0 g) 0 (show 0 < 22 by omega) (show enR g 0 _ = _ from rfl) rfl (av := [.int (nI 1)]) (rest := []) (m_Mo_pushType (kl K) g hI M (t := t) _ (by first | exact h20 | exact up2_s _ _ _ _) (by omega)) wd_671 wd_668 wd_670 ws_53 wd_6 hd_Mo_pushType (by omega) (by decide) rfl rfl (Nat.le_of_ble_eq_true rfl) d_Mo_typeOf_145 (fun r9 M9 hp9 => ?_)
    obtain ⟨rfl, rfl⟩ := hp9
    refine v_r0 ?_
    refine v_iinc h0 d_Mo_typeOf_148 (lv' := [(4, .int (pdI p)), (2, .int (nI 1)), (6, .int (nI 1)), (5, .int (s p)), (3, .int (nI f)), (0, .ref (ga g 0)), (1, .int (nI c))]) 3 rfl (pd_inc p) (lt_kn hn (by decide)) rfl ?_
    refine v_goto h0 d_Mo_typeOf_151 rfl ?_
    refine v_sub [0, 4, 1, 5, 6] rfl ?_
    refine v_eq kk rfl rfl (by rw [h128, Bool.true_and]; rfl) rfl
set_option maxHeartbeats 4000000 in
theorem tq_8 {K : Cf} {g : Gd} (hI : sI (sR g)) (h0 : C0 K c_Mo_typeOf) (hC : Cx (sR g) K gC_Mo 4) (hn : kn K = 7) {M : Me} {c n p f t : Nat} {gd : Bool} {s : Nat → Int32} (hc : c < 10) (hT : TR M c s n) (hp : p < n) (hf : f ≤ p) (hl : lbR M c p = 0) (hx : kd (s p) = 8) {β : Me} (hTx : TxR M β) (hR9 : RsR M β) (hj : ¬ dfL β (nmI (s p)) 10 < 0) (h20 : M 0 20 = nI t) (ht20 : t ≤ 20) (kk : V K (wp (sR g)) (ptM (M) t (tnI β c (nmI (s p)))) 31 [(4, .int (pdI p)), (3, .int (nI f)), (2, .int (bI (gd && decide (¬ tnI β c (nmI (s p)) = 0)))), (0, .ref (ga g 0)), (1, .int (nI c))] []) : V K (wp (sR g)) M 31 [(4, .int (pdI (p + 1))), (3, .int (nI f)), (2, .int (bI gd)), (0, .ref (ga g 0)), (1, .int (nI c))] [] := by
  have hn24 := hT.2.1
  refine v_eq (?_ : V K (wp (sR g)) M 31 [(4, .int (nI p)), (3, .int (nI f)), (2, .int (bI gd)), (0, .ref (ga g 0)), (1, .int (nI c))] []) rfl rfl (by rw [pd_s]) rfl
  refine v_iload h0 d_Mo_typeOf_31 0 rfl ?_
  refine v_iload_n h0 d_Mo_typeOf_33 1 rfl ?_
  refine n_icmp_lt h0 (by omega) (by omega) d_Mo_typeOf_34 rfl (fun h34 => absurd h34 (by omega)) (fun h34 => ?_)
  refine v_aload_n h0 d_Mo_typeOf_37 3 rfl ?_
  refine g_Mo_label_ h0 hC wd_454 d_Mo_typeOf_38 ?_
  refine v_bipush h0 d_Mo_typeOf_41 (v := nI 24) (by decide) ?_
  refine v_iload_n h0 d_Mo_typeOf_43 4 rfl ?_
  refine v_imul h0 d_Mo_typeOf_44 ?_
  refine v_int (nI (24 * c)) (pk_mul 24 c) ?_
  refine v_iload h0 d_Mo_typeOf_45 0 rfl ?_
  refine v_iadd h0 d_Mo_typeOf_47 ?_
  refine v_int (nI (24 * c + p)) (nI_add (24 * c) p) ?_
  refine a_Mo_label_ h0 hC (24 * c + p) (rfl) (by omega) d_Mo_typeOf_48 ?_
  refine v_int (0) (hl) ?_
  refine v_if_ne h0 d_Mo_typeOf_49 rfl (fun h49 => absurd h49 (fun z => z rfl)) (fun h49 => ?_)
  refine v_aload_n h0 d_Mo_typeOf_52 3 rfl ?_
  refine v_iload_n h0 d_Mo_typeOf_53 4 rfl ?_
  refine v_iload h0 d_Mo_typeOf_54 0 rfl ?_
  refine v_callV h0 hC (sR_N0 g) 0 (show 0 < 22 by omega) (show enR g 0 _ = _ from rfl) rfl (av := [.int (nI c), .int (nI p)]) (rest := []) (m_Mo_charAt (kl K) g hI M hc (by omega) hT) wd_564 wd_561 wd_563 ws_32 wd_6 hd_Mo_charAt (by omega) (by decide) rfl rfl (Nat.le_of_ble_eq_true rfl) d_Mo_typeOf_56 (fun r9 M9 hp9 => ?_)
  obtain ⟨rfl, rfl⟩ := hp9
  refine v_r1 ?_
  refine v_int (s p) (if_pos hp) ?_
  refine v_istore h0 d_Mo_typeOf_59 (lv' := [(5, .int (s p)), (4, .int (nI p)), (3, .int (nI f)), (2, .int (bI gd)), (0, .ref (ga g 0)), (1, .int (nI c))]) (lt_kn hn (by decide)) rfl ?_
  refine v_iload h0 d_Mo_typeOf_61 0 rfl ?_
  refine v_callS h0 hC (sR_N0 g) (av := [.int (s p)]) (rest := []) (m_Mo_isDigit (kl K) g hI _ _) wd_574 wd_572 wd_573 wd_6 hd_Mo_isDigit (by omega) (by decide) rfl rfl (Nat.le_of_ble_eq_true rfl) d_Mo_typeOf_63 (fun r9 M9 hp9 => ?_)
  obtain ⟨rfl, rfl⟩ := hp9
  refine v_r1 ?_
  refine b_if_ne h0 d_Mo_typeOf_66 rfl (fun h66 => absurd h66 (by unfold kdB; rw [hx]; decide)) (fun h66 => ?_)
  refine v_iload h0 d_Mo_typeOf_69 0 rfl ?_
  refine v_callS h0 hC (sR_N0 g) (av := [.int (s p)]) (rest := []) (m_Mo_isLocal (kl K) g hI _ _) wd_567 wd_565 wd_566 wd_6 hd_Mo_isLocal (by omega) (by decide) rfl rfl (Nat.le_of_ble_eq_true rfl) d_Mo_typeOf_71 (fun r9 M9 hp9 => ?_)
  obtain ⟨rfl, rfl⟩ := hp9
  refine v_r1 ?_
  refine b_if_eq h0 d_Mo_typeOf_74 rfl (fun h74 => ?_) (fun h74 => absurd h74 (by unfold kdB; rw [hx]; decide))
  refine v_iload h0 d_Mo_typeOf_81 0 rfl ?_
  refine v_callS h0 hC (sR_N0 g) (av := [.int (s p)]) (rest := []) (m_Mo_isName (kl K) g hI _ _) wd_581 wd_579 wd_580 wd_6 hd_Mo_isName (by omega) (by decide) rfl rfl (Nat.le_of_ble_eq_true rfl) d_Mo_typeOf_83 (fun r9 M9 hp9 => ?_)
  obtain ⟨rfl, rfl⟩ := hp9
  refine v_r1 ?_
  refine b_if_eq h0 d_Mo_typeOf_86 rfl (fun h86 => absurd h86 (by unfold kdB; rw [hx]; decide)) (fun h86 => ?_)
  refine v_aload_n h0 d_Mo_typeOf_89 4 rfl ?_
  refine v_iload_n h0 d_Mo_typeOf_90 5 rfl ?_
  refine v_iload h0 d_Mo_typeOf_91 0 rfl ?_
  refine v_bipush h0 d_Mo_typeOf_93 (v := nI 97) (by decide) ?_
  refine v_isub h0 d_Mo_typeOf_95 ?_
  refine v_int (nI (nmI (s p))) ((nm_of hx).2) ?_
  refine v_callV h0 hC (sR_N0 g) 0 (show 0 < 22 by omega) (show enR g 0 _ = _ from rfl) rfl (av := [.int (nI c), .int (nI (nmI (s p)))]) (rest := []) (m_Mo_ownName (kl K) g hI M hc (hTx c hc).1 _) wd_651 wd_648 wd_650 ws_48 wd_6 hd_Mo_ownName (by omega) (by decide) rfl rfl (Nat.le_of_ble_eq_true rfl) d_Mo_typeOf_96 (fun r9 M9 hp9 => ?_)
  obtain ⟨rfl, rfl⟩ := hp9
  refine v_r1 ?_
  refine b_if_eq h0 d_Mo_typeOf_99 rfl (fun h99 => ?_) (fun h99 => ?_)
  · skip
    refine v_aload_n h0 d_Mo_typeOf_106 4 rfl ?_
    refine v_iload h0 d_Mo_typeOf_107 0 rfl ?_
    refine v_bipush h0 d_Mo_typeOf_109 (v := nI 97) (by decide) ?_
    refine v_isub h0 d_Mo_typeOf_111 ?_
    refine v_int (nI (nmI (s p))) ((nm_of hx).2) ?_
    refine v_callV h0 hC (sR_N0 g) 0 (show 0 < 22 by omega) (show enR g 0 _ = _ from rfl) rfl (av := [.int (nI (nmI (s p)))]) (rest := []) (m_Mo_typeOfName (kl K) g hI M hTx hR9 hj) wd_655 wd_652 wd_654 ws_49 wd_6 hd_Mo_typeOfName (by omega) (by decide) rfl rfl (Nat.le_of_ble_eq_true rfl) d_Mo_typeOf_112 (fun r9 M9 hp9 => ?_)
    obtain ⟨rfl, rfl⟩ := hp9
    refine v_r1 ?_
    refine v_goto h0 d_Mo_typeOf_115 rfl ?_
    refine v_int (tnI β c (nmI (s p))) (by unfold tnI; rw [if_neg (of_decide_eq_false h99)]) ?_
    refine v_istore h0 d_Mo_typeOf_125 (lv' := [(6, .int (tnI β c (nmI (s p)))), (5, .int (s p)), (4, .int (nI p)), (3, .int (nI f)), (2, .int (bI gd)), (0, .ref (ga g 0)), (1, .int (nI c))]) (lt_kn hn (by decide)) rfl ?_
    refine v_iload_n h0 d_Mo_typeOf_127 4 rfl ?_
    refine b_if_eq h0 d_Mo_typeOf_128 rfl (fun h128 => ?_) (fun h128 => ?_)
    · skip
      refine v_iconst h0 d_Mo_typeOf_140 (v := nI 0) (by decide) ?_
      refine v_istore_n h0 d_Mo_typeOf_141 (lv' := [(2, .int (nI 0)), (6, .int (tnI β c (nmI (s p)))), (5, .int (s p)), (4, .int (nI p)), (3, .int (nI f)), (0, .ref (ga g 0)), (1, .int (nI c))]) (lt_kn hn (by decide)) rfl ?_
      refine v_aload_n h0 d_Mo_typeOf_142 5 rfl ?_
      refine v_iload h0 d_Mo_typeOf_143 1 rfl ?_
      refine v_callV h0 hC (sR_N0 g) 0 (show 0 < 22 by omega) (show enR g 0 _ = _ from rfl) rfl (av := [.int (tnI β c (nmI (s p)))]) (rest := []) (m_Mo_pushType (kl K) g hI M (t := t) _ (by first | exact h20 | exact up2_s _ _ _ _) (by omega)) wd_671 wd_668 wd_670 ws_53 wd_6 hd_Mo_pushType (by omega) (by decide) rfl rfl (Nat.le_of_ble_eq_true rfl) d_Mo_typeOf_145 (fun r9 M9 hp9 => ?_)
      obtain ⟨rfl, rfl⟩ := hp9
      refine v_r0 ?_
      refine v_iinc h0 d_Mo_typeOf_148 (lv' := [(4, .int (pdI p)), (2, .int (nI 0)), (6, .int (tnI β c (nmI (s p)))), (5, .int (s p)), (3, .int (nI f)), (0, .ref (ga g 0)), (1, .int (nI c))]) 3 rfl (pd_inc p) (lt_kn hn (by decide)) rfl ?_
      refine v_goto h0 d_Mo_typeOf_151 rfl ?_
      refine v_sub [0, 4, 1, 5, 6] rfl ?_
      refine v_eq kk rfl rfl (by rw [h128, Bool.false_and]; rfl) rfl
    · skip
      refine v_iload h0 d_Mo_typeOf_131 0 rfl ?_
      refine v_if_eq h0 d_Mo_typeOf_133 rfl (fun h133 => ?_) (fun h133 => ?_)
      · skip
        refine v_iconst h0 d_Mo_typeOf_140 (v := nI 0) (by decide) ?_
        refine v_istore_n h0 d_Mo_typeOf_141 (lv' := [(2, .int (nI 0)), (6, .int (tnI β c (nmI (s p)))), (5, .int (s p)), (4, .int (nI p)), (3, .int (nI f)), (0, .ref (ga g 0)), (1, .int (nI c))]) (lt_kn hn (by decide)) rfl ?_
        refine v_aload_n h0 d_Mo_typeOf_142 5 rfl ?_
        refine v_iload h0 d_Mo_typeOf_143 1 rfl ?_
        refine v_callV h0 hC (sR_N0 g) 0 (show 0 < 22 by omega) (show enR g 0 _ = _ from rfl) rfl (av := [.int (tnI β c (nmI (s p)))]) (rest := []) (m_Mo_pushType (kl K) g hI M (t := t) _ (by first | exact h20 | exact up2_s _ _ _ _) (by omega)) wd_671 wd_668 wd_670 ws_53 wd_6 hd_Mo_pushType (by omega) (by decide) rfl rfl (Nat.le_of_ble_eq_true rfl) d_Mo_typeOf_145 (fun r9 M9 hp9 => ?_)
        obtain ⟨rfl, rfl⟩ := hp9
        refine v_r0 ?_
        refine v_iinc h0 d_Mo_typeOf_148 (lv' := [(4, .int (pdI p)), (2, .int (nI 0)), (6, .int (tnI β c (nmI (s p)))), (5, .int (s p)), (3, .int (nI f)), (0, .ref (ga g 0)), (1, .int (nI c))]) 3 rfl (pd_inc p) (lt_kn hn (by decide)) rfl ?_
        refine v_goto h0 d_Mo_typeOf_151 rfl ?_
        refine v_sub [0, 4, 1, 5, 6] rfl ?_
        refine v_eq kk rfl rfl (by rw [h128, decide_eq_false (fun z => z h133), Bool.and_false]; rfl) rfl
      · skip
        refine v_iconst h0 d_Mo_typeOf_136 (v := nI 1) (by decide) ?_
        refine v_goto h0 d_Mo_typeOf_137 rfl ?_
        refine v_istore_n h0 d_Mo_typeOf_141 (lv' := [(2, .int (nI 1)), (6, .int (tnI β c (nmI (s p)))), (5, .int (s p)), (4, .int (nI p)), (3, .int (nI f)), (0, .ref (ga g 0)), (1, .int (nI c))]) (lt_kn hn (by decide)) rfl ?_
        refine v_aload_n h0 d_Mo_typeOf_142 5 rfl ?_
        refine v_iload h0 d_Mo_typeOf_143 1 rfl ?_
        refine v_callV h0 hC (sR_N0 g) 0 (show 0 < 22 by omega) (show enR g 0 _ = _ from rfl) rfl (av := [.int (tnI β c (nmI (s p)))]) (rest := []) (m_Mo_pushType (kl K) g hI M (t := t) _ (by first | exact h20 | exact up2_s _ _ _ _) (by omega)) wd_671 wd_668 wd_670 ws_53 wd_6 hd_Mo_pushType (by omega) (by decide) rfl rfl (Nat.le_of_ble_eq_true rfl) d_Mo_typeOf_145 (fun r9 M9 hp9 => ?_)
        obtain ⟨rfl, rfl⟩ := hp9
        refine v_r0 ?_
        refine v_iinc h0 d_Mo_typeOf_148 (lv' := [(4, .int (pdI p)), (2, .int (nI 1)), (6, .int (tnI β c (nmI (s p)))), (5, .int (s p)), (3, .int (nI f)), (0, .ref (ga g 0)), (1, .int (nI c))]) 3 rfl (pd_inc p) (lt_kn hn (by decide)) rfl ?_
        refine v_goto h0 d_Mo_typeOf_151 rfl ?_
        refine v_sub [0, 4, 1, 5, 6] rfl ?_
        refine v_eq kk rfl rfl (by rw [h128, decide_eq_true h133, Bool.and_self]; rfl) rfl
  · skip
    refine v_iconst h0 d_Mo_typeOf_102 (v := nI 0) (by decide) ?_
    refine v_goto h0 d_Mo_typeOf_103 rfl ?_
    refine v_int (tnI β c (nmI (s p))) (by unfold tnI; rw [if_pos (of_decide_eq_true h99)]; rfl) ?_
    refine v_istore h0 d_Mo_typeOf_125 (lv' := [(6, .int (tnI β c (nmI (s p)))), (5, .int (s p)), (4, .int (nI p)), (3, .int (nI f)), (2, .int (bI gd)), (0, .ref (ga g 0)), (1, .int (nI c))]) (lt_kn hn (by decide)) rfl ?_
    refine v_iload_n h0 d_Mo_typeOf_127 4 rfl ?_
    refine b_if_eq h0 d_Mo_typeOf_128 rfl (fun h128 => ?_) (fun h128 => ?_)
    · skip
      refine v_iconst h0 d_Mo_typeOf_140 (v := nI 0) (by decide) ?_
      refine v_istore_n h0 d_Mo_typeOf_141 (lv' := [(2, .int (nI 0)), (6, .int (tnI β c (nmI (s p)))), (5, .int (s p)), (4, .int (nI p)), (3, .int (nI f)), (0, .ref (ga g 0)), (1, .int (nI c))]) (lt_kn hn (by decide)) rfl ?_
      refine v_aload_n h0 d_Mo_typeOf_142 5 rfl ?_
      refine v_iload h0 d_Mo_typeOf_143 1 rfl ?_
      refine v_callV h0 hC (sR_N0 g) 0 (show 0 < 22 by omega) (show enR g 0 _ = _ from rfl) rfl (av := [.int (tnI β c (nmI (s p)))]) (rest := []) (m_Mo_pushType (kl K) g hI M (t := t) _ (by first | exact h20 | exact up2_s _ _ _ _) (by omega)) wd_671 wd_668 wd_670 ws_53 wd_6 hd_Mo_pushType (by omega) (by decide) rfl rfl (Nat.le_of_ble_eq_true rfl) d_Mo_typeOf_145 (fun r9 M9 hp9 => ?_)
      obtain ⟨rfl, rfl⟩ := hp9
      refine v_r0 ?_
      refine v_iinc h0 d_Mo_typeOf_148 (lv' := [(4, .int (pdI p)), (2, .int (nI 0)), (6, .int (tnI β c (nmI (s p)))), (5, .int (s p)), (3, .int (nI f)), (0, .ref (ga g 0)), (1, .int (nI c))]) 3 rfl (pd_inc p) (lt_kn hn (by decide)) rfl ?_
      refine v_goto h0 d_Mo_typeOf_151 rfl ?_
      refine v_sub [0, 4, 1, 5, 6] rfl ?_
      refine v_eq kk rfl rfl (by rw [h128, Bool.false_and]; rfl) rfl
    · skip
      refine v_iload h0 d_Mo_typeOf_131 0 rfl ?_
      refine v_if_eq h0 d_Mo_typeOf_133 rfl (fun h133 => ?_) (fun h133 => ?_)
      · skip
        refine v_iconst h0 d_Mo_typeOf_140 (v := nI 0) (by decide) ?_
        refine v_istore_n h0 d_Mo_typeOf_141 (lv' := [(2, .int (nI 0)), (6, .int (tnI β c (nmI (s p)))), (5, .int (s p)), (4, .int (nI p)), (3, .int (nI f)), (0, .ref (ga g 0)), (1, .int (nI c))]) (lt_kn hn (by decide)) rfl ?_
        refine v_aload_n h0 d_Mo_typeOf_142 5 rfl ?_
        refine v_iload h0 d_Mo_typeOf_143 1 rfl ?_
        refine v_callV h0 hC (sR_N0 g) 0 (show 0 < 22 by omega) (show enR g 0 _ = _ from rfl) rfl (av := [.int (tnI β c (nmI (s p)))]) (rest := []) (m_Mo_pushType (kl K) g hI M (t := t) _ (by first | exact h20 | exact up2_s _ _ _ _) (by omega)) wd_671 wd_668 wd_670 ws_53 wd_6 hd_Mo_pushType (by omega) (by decide) rfl rfl (Nat.le_of_ble_eq_true rfl) d_Mo_typeOf_145 (fun r9 M9 hp9 => ?_)
        obtain ⟨rfl, rfl⟩ := hp9
        refine v_r0 ?_
        refine v_iinc h0 d_Mo_typeOf_148 (lv' := [(4, .int (pdI p)), (2, .int (nI 0)), (6, .int (tnI β c (nmI (s p)))), (5, .int (s p)), (3, .int (nI f)), (0, .ref (ga g 0)), (1, .int (nI c))]) 3 rfl (pd_inc p) (lt_kn hn (by decide)) rfl ?_
        refine v_goto h0 d_Mo_typeOf_151 rfl ?_
        refine v_sub [0, 4, 1, 5, 6] rfl ?_
        refine v_eq kk rfl rfl (by rw [h128, decide_eq_false (fun z => z h133), Bool.and_false]; rfl) rfl
      · skip
        refine v_iconst h0 d_Mo_typeOf_136 (v := nI 1) (by decide) ?_
        refine v_goto h0 d_Mo_typeOf_137 rfl ?_
        refine v_istore_n h0 d_Mo_typeOf_141 (lv' := [(2, .int (nI 1)), (6, .int (tnI β c (nmI (s p)))), (5, .int (s p)), (4, .int (nI p)), (3, .int (nI f)), (0, .ref (ga g 0)), (1, .int (nI c))]) (lt_kn hn (by decide)) rfl ?_
        refine v_aload_n h0 d_Mo_typeOf_142 5 rfl ?_
        refine v_iload h0 d_Mo_typeOf_143 1 rfl ?_
        refine v_callV h0 hC (sR_N0 g) 0 (show 0 < 22 by omega) (show enR g 0 _ = _ from rfl) rfl (av := [.int (tnI β c (nmI (s p)))]) (rest := []) (m_Mo_pushType (kl K) g hI M (t := t) _ (by first | exact h20 | exact up2_s _ _ _ _) (by omega)) wd_671 wd_668 wd_670 ws_53 wd_6 hd_Mo_pushType (by omega) (by decide) rfl rfl (Nat.le_of_ble_eq_true rfl) d_Mo_typeOf_145 (fun r9 M9 hp9 => ?_)
        obtain ⟨rfl, rfl⟩ := hp9
        refine v_r0 ?_
        refine v_iinc h0 d_Mo_typeOf_148 (lv' := [(4, .int (pdI p)), (2, .int (nI 1)), (6, .int (tnI β c (nmI (s p)))), (5, .int (s p)), (3, .int (nI f)), (0, .ref (ga g 0)), (1, .int (nI c))]) 3 rfl (pd_inc p) (lt_kn hn (by decide)) rfl ?_
        refine v_goto h0 d_Mo_typeOf_151 rfl ?_
        refine v_sub [0, 4, 1, 5, 6] rfl ?_
        refine v_eq kk rfl rfl (by rw [h128, decide_eq_true h133, Bool.and_self]; rfl) rfl
set_option maxHeartbeats 4000000 in
theorem tq_1 {K : Cf} {g : Gd} (hI : sI (sR g)) (h0 : C0 K c_Mo_typeOf) (hC : Cx (sR g) K gC_Mo 4) (hn : kn K = 7) {M : Me} {c n p f t : Nat} {gd : Bool} {s : Nat → Int32} (hc : c < 10) (hT : TR M c s n) (hp : p < n) (hf : f ≤ p) (hl : lbR M c p = 0) (hx : kd (s p) = 1) {a : Int32} (ha : M 16 (t) = a) (h20 : M 0 20 = nI (t + 1)) (ht20 : t ≤ 20) (kk : V K (wp (sR g)) (ptM (up2 M 0 20 (nI (t))) t (tv1 a)) 31 [(4, .int (pdI p)), (3, .int (nI f)), (2, .int (bI (gd && decide (¬ tv1 a = 0)))), (0, .ref (ga g 0)), (1, .int (nI c))] []) : V K (wp (sR g)) M 31 [(4, .int (pdI (p + 1))), (3, .int (nI f)), (2, .int (bI gd)), (0, .ref (ga g 0)), (1, .int (nI c))] [] := by
  have hn24 := hT.2.1
  refine v_eq (?_ : V K (wp (sR g)) M 31 [(4, .int (nI p)), (3, .int (nI f)), (2, .int (bI gd)), (0, .ref (ga g 0)), (1, .int (nI c))] []) rfl rfl (by rw [pd_s]) rfl
  refine v_iload h0 d_Mo_typeOf_31 0 rfl ?_
  refine v_iload_n h0 d_Mo_typeOf_33 1 rfl ?_
  refine n_icmp_lt h0 (by omega) (by omega) d_Mo_typeOf_34 rfl (fun h34 => absurd h34 (by omega)) (fun h34 => ?_)
  refine v_aload_n h0 d_Mo_typeOf_37 3 rfl ?_
  refine g_Mo_label_ h0 hC wd_454 d_Mo_typeOf_38 ?_
  refine v_bipush h0 d_Mo_typeOf_41 (v := nI 24) (by decide) ?_
  refine v_iload_n h0 d_Mo_typeOf_43 4 rfl ?_
  refine v_imul h0 d_Mo_typeOf_44 ?_
  refine v_int (nI (24 * c)) (pk_mul 24 c) ?_
  refine v_iload h0 d_Mo_typeOf_45 0 rfl ?_
  refine v_iadd h0 d_Mo_typeOf_47 ?_
  refine v_int (nI (24 * c + p)) (nI_add (24 * c) p) ?_
  refine a_Mo_label_ h0 hC (24 * c + p) (rfl) (by omega) d_Mo_typeOf_48 ?_
  refine v_int (0) (hl) ?_
  refine v_if_ne h0 d_Mo_typeOf_49 rfl (fun h49 => absurd h49 (fun z => z rfl)) (fun h49 => ?_)
  refine v_aload_n h0 d_Mo_typeOf_52 3 rfl ?_
  refine v_iload_n h0 d_Mo_typeOf_53 4 rfl ?_
  refine v_iload h0 d_Mo_typeOf_54 0 rfl ?_
  refine v_callV h0 hC (sR_N0 g) 0 (show 0 < 22 by omega) (show enR g 0 _ = _ from rfl) rfl (av := [.int (nI c), .int (nI p)]) (rest := []) (m_Mo_charAt (kl K) g hI M hc (by omega) hT) wd_564 wd_561 wd_563 ws_32 wd_6 hd_Mo_charAt (by omega) (by decide) rfl rfl (Nat.le_of_ble_eq_true rfl) d_Mo_typeOf_56 (fun r9 M9 hp9 => ?_)
  obtain ⟨rfl, rfl⟩ := hp9
  refine v_r1 ?_
  refine v_int (s p) (if_pos hp) ?_
  refine v_istore h0 d_Mo_typeOf_59 (lv' := [(5, .int (s p)), (4, .int (nI p)), (3, .int (nI f)), (2, .int (bI gd)), (0, .ref (ga g 0)), (1, .int (nI c))]) (lt_kn hn (by decide)) rfl ?_
  refine v_iload h0 d_Mo_typeOf_61 0 rfl ?_
  refine v_callS h0 hC (sR_N0 g) (av := [.int (s p)]) (rest := []) (m_Mo_isDigit (kl K) g hI _ _) wd_574 wd_572 wd_573 wd_6 hd_Mo_isDigit (by omega) (by decide) rfl rfl (Nat.le_of_ble_eq_true rfl) d_Mo_typeOf_63 (fun r9 M9 hp9 => ?_)
  obtain ⟨rfl, rfl⟩ := hp9
  refine v_r1 ?_
  refine b_if_ne h0 d_Mo_typeOf_66 rfl (fun h66 => absurd h66 (by unfold kdB; rw [hx]; decide)) (fun h66 => ?_)
  refine v_iload h0 d_Mo_typeOf_69 0 rfl ?_
  refine v_callS h0 hC (sR_N0 g) (av := [.int (s p)]) (rest := []) (m_Mo_isLocal (kl K) g hI _ _) wd_567 wd_565 wd_566 wd_6 hd_Mo_isLocal (by omega) (by decide) rfl rfl (Nat.le_of_ble_eq_true rfl) d_Mo_typeOf_71 (fun r9 M9 hp9 => ?_)
  obtain ⟨rfl, rfl⟩ := hp9
  refine v_r1 ?_
  refine b_if_eq h0 d_Mo_typeOf_74 rfl (fun h74 => ?_) (fun h74 => absurd h74 (by unfold kdB; rw [hx]; decide))
  refine v_iload h0 d_Mo_typeOf_81 0 rfl ?_
  refine v_callS h0 hC (sR_N0 g) (av := [.int (s p)]) (rest := []) (m_Mo_isName (kl K) g hI _ _) wd_581 wd_579 wd_580 wd_6 hd_Mo_isName (by omega) (by decide) rfl rfl (Nat.le_of_ble_eq_true rfl) d_Mo_typeOf_83 (fun r9 M9 hp9 => ?_)
  obtain ⟨rfl, rfl⟩ := hp9
  refine v_r1 ?_
  refine b_if_eq h0 d_Mo_typeOf_86 rfl (fun h86 => ?_) (fun h86 => absurd h86 (by unfold kdB; rw [hx]; decide))
  refine v_aload_n h0 d_Mo_typeOf_118 4 rfl ?_
  refine v_iload_n h0 d_Mo_typeOf_119 5 rfl ?_
  refine v_iload h0 d_Mo_typeOf_120 1 rfl ?_
  refine v_callV h0 hC (sR_N0 g) 0 (show 0 < 22 by omega) (show enR g 0 _ = _ from rfl) rfl (av := [.int (nI c), .int (nI p)]) (rest := []) (m_Mo_typeOver_1 (kl K) g hI M hc hp hT hx ha h20 ht20) wd_659 wd_656 wd_658 ws_50 wd_6 hd_Mo_typeOver (by omega) (by decide) rfl rfl (Nat.le_of_ble_eq_true rfl) d_Mo_typeOf_122 (fun r9 M9 hp9 => ?_)
  obtain ⟨rfl, rfl⟩ := hp9
  refine v_r1 ?_
  refine v_istore h0 d_Mo_typeOf_125 (lv' := [(6, .int (tv1 a)), (5, .int (s p)), (4, .int (nI p)), (3, .int (nI f)), (2, .int (bI gd)), (0, .ref (ga g 0)), (1, .int (nI c))]) (lt_kn hn (by decide)) rfl ?_
  refine v_iload_n h0 d_Mo_typeOf_127 4 rfl ?_
  refine b_if_eq h0 d_Mo_typeOf_128 rfl (fun h128 => ?_) (fun h128 => ?_)
  · skip
    refine v_iconst h0 d_Mo_typeOf_140 (v := nI 0) (by decide) ?_
    refine v_istore_n h0 d_Mo_typeOf_141 (lv' := [(2, .int (nI 0)), (6, .int (tv1 a)), (5, .int (s p)), (4, .int (nI p)), (3, .int (nI f)), (0, .ref (ga g 0)), (1, .int (nI c))]) (lt_kn hn (by decide)) rfl ?_
    refine v_aload_n h0 d_Mo_typeOf_142 5 rfl ?_
    refine v_iload h0 d_Mo_typeOf_143 1 rfl ?_
    refine v_callV h0 hC (sR_N0 g) 0 (show 0 < 22 by omega) (show enR g 0 _ = _ from rfl) rfl (av := [.int (tv1 a)]) (rest := []) (m_Mo_pushType (kl K) g hI (up2 M 0 20 (nI (t))) (t := t) _ (by first | exact h20 | exact up2_s _ _ _ _) (by omega)) wd_671 wd_668 wd_670 ws_53 wd_6 hd_Mo_pushType (by omega) (by decide) rfl rfl (Nat.le_of_ble_eq_true rfl) d_Mo_typeOf_145 (fun r9 M9 hp9 => ?_)
    obtain ⟨rfl, rfl⟩ := hp9
    refine v_r0 ?_
    refine v_iinc h0 d_Mo_typeOf_148 (lv' := [(4, .int (pdI p)), (2, .int (nI 0)), (6, .int (tv1 a)), (5, .int (s p)), (3, .int (nI f)), (0, .ref (ga g 0)), (1, .int (nI c))]) 3 rfl (pd_inc p) (lt_kn hn (by decide)) rfl ?_
    refine v_goto h0 d_Mo_typeOf_151 rfl ?_
    refine v_sub [0, 4, 1, 5, 6] rfl ?_
    refine v_eq kk rfl rfl (by rw [h128, Bool.false_and]; rfl) rfl
  · skip
    refine v_iload h0 d_Mo_typeOf_131 0 rfl ?_
    refine v_if_eq h0 d_Mo_typeOf_133 rfl (fun h133 => ?_) (fun h133 => ?_)
    · skip
      refine v_iconst h0 d_Mo_typeOf_140 (v := nI 0) (by decide) ?_
      refine v_istore_n h0 d_Mo_typeOf_141 (lv' := [(2, .int (nI 0)), (6, .int (tv1 a)), (5, .int (s p)), (4, .int (nI p)), (3, .int (nI f)), (0, .ref (ga g 0)), (1, .int (nI c))]) (lt_kn hn (by decide)) rfl ?_
      refine v_aload_n h0 d_Mo_typeOf_142 5 rfl ?_
      refine v_iload h0 d_Mo_typeOf_143 1 rfl ?_
      refine v_callV h0 hC (sR_N0 g) 0 (show 0 < 22 by omega) (show enR g 0 _ = _ from rfl) rfl (av := [.int (tv1 a)]) (rest := []) (m_Mo_pushType (kl K) g hI (up2 M 0 20 (nI (t))) (t := t) _ (by first | exact h20 | exact up2_s _ _ _ _) (by omega)) wd_671 wd_668 wd_670 ws_53 wd_6 hd_Mo_pushType (by omega) (by decide) rfl rfl (Nat.le_of_ble_eq_true rfl) d_Mo_typeOf_145 (fun r9 M9 hp9 => ?_)
      obtain ⟨rfl, rfl⟩ := hp9
      refine v_r0 ?_
      refine v_iinc h0 d_Mo_typeOf_148 (lv' := [(4, .int (pdI p)), (2, .int (nI 0)), (6, .int (tv1 a)), (5, .int (s p)), (3, .int (nI f)), (0, .ref (ga g 0)), (1, .int (nI c))]) 3 rfl (pd_inc p) (lt_kn hn (by decide)) rfl ?_
      refine v_goto h0 d_Mo_typeOf_151 rfl ?_
      refine v_sub [0, 4, 1, 5, 6] rfl ?_
      refine v_eq kk rfl rfl (by rw [h128, decide_eq_false (fun z => z h133), Bool.and_false]; rfl) rfl
    · skip
      refine v_iconst h0 d_Mo_typeOf_136 (v := nI 1) (by decide) ?_
      refine v_goto h0 d_Mo_typeOf_137 rfl ?_
      refine v_istore_n h0 d_Mo_typeOf_141 (lv' := [(2, .int (nI 1)), (6, .int (tv1 a)), (5, .int (s p)), (4, .int (nI p)), (3, .int (nI f)), (0, .ref (ga g 0)), (1, .int (nI c))]) (lt_kn hn (by decide)) rfl ?_
      refine v_aload_n h0 d_Mo_typeOf_142 5 rfl ?_
      refine v_iload h0 d_Mo_typeOf_143 1 rfl ?_
      refine v_callV h0 hC (sR_N0 g) 0 (show 0 < 22 by omega) (show enR g 0 _ = _ from rfl) rfl (av := [.int (tv1 a)]) (rest := []) (m_Mo_pushType (kl K) g hI (up2 M 0 20 (nI (t))) (t := t) _ (by first | exact h20 | exact up2_s _ _ _ _) (by omega)) wd_671 wd_668 wd_670 ws_53 wd_6 hd_Mo_pushType (by omega) (by decide) rfl rfl (Nat.le_of_ble_eq_true rfl) d_Mo_typeOf_145 (fun r9 M9 hp9 => ?_)
      obtain ⟨rfl, rfl⟩ := hp9
      refine v_r0 ?_
      refine v_iinc h0 d_Mo_typeOf_148 (lv' := [(4, .int (pdI p)), (2, .int (nI 1)), (6, .int (tv1 a)), (5, .int (s p)), (3, .int (nI f)), (0, .ref (ga g 0)), (1, .int (nI c))]) 3 rfl (pd_inc p) (lt_kn hn (by decide)) rfl ?_
      refine v_goto h0 d_Mo_typeOf_151 rfl ?_
      refine v_sub [0, 4, 1, 5, 6] rfl ?_
      refine v_eq kk rfl rfl (by rw [h128, decide_eq_true h133, Bool.and_self]; rfl) rfl
set_option maxHeartbeats 4000000 in
theorem tq_5 {K : Cf} {g : Gd} (hI : sI (sR g)) (h0 : C0 K c_Mo_typeOf) (hC : Cx (sR g) K gC_Mo 4) (hn : kn K = 7) {M : Me} {c n p f t : Nat} {gd : Bool} {s : Nat → Int32} (hc : c < 10) (hT : TR M c s n) (hp : p < n) (hf : f ≤ p) (hl : lbR M c p = 0) (hx : kd (s p) = 5) {a : Int32} (ha : M 16 (t) = a) (h20 : M 0 20 = nI (t + 1)) (ht20 : t ≤ 20) {β : Me} (hTx : TxR M β) (hR9 : RsR M β) (hk1 : p + 1 < n) (hy : kd (s (p + 1)) = 8) (hj : ¬ dfL β (nmI (s (p + 1))) 10 < 0) (kk : V K (wp (sR g)) (ptM (up2 M 0 20 (nI (t))) t (tv5 a (fjB β c (nmI (s (p + 1)))))) 31 [(4, .int (pdI p)), (3, .int (nI f)), (2, .int (bI (gd && decide (¬ tv5 a (fjB β c (nmI (s (p + 1)))) = 0)))), (0, .ref (ga g 0)), (1, .int (nI c))] []) : V K (wp (sR g)) M 31 [(4, .int (pdI (p + 1))), (3, .int (nI f)), (2, .int (bI gd)), (0, .ref (ga g 0)), (1, .int (nI c))] [] := by
  have hn24 := hT.2.1
  refine v_eq (?_ : V K (wp (sR g)) M 31 [(4, .int (nI p)), (3, .int (nI f)), (2, .int (bI gd)), (0, .ref (ga g 0)), (1, .int (nI c))] []) rfl rfl (by rw [pd_s]) rfl
  refine v_iload h0 d_Mo_typeOf_31 0 rfl ?_
  refine v_iload_n h0 d_Mo_typeOf_33 1 rfl ?_
  refine n_icmp_lt h0 (by omega) (by omega) d_Mo_typeOf_34 rfl (fun h34 => absurd h34 (by omega)) (fun h34 => ?_)
  refine v_aload_n h0 d_Mo_typeOf_37 3 rfl ?_
  refine g_Mo_label_ h0 hC wd_454 d_Mo_typeOf_38 ?_
  refine v_bipush h0 d_Mo_typeOf_41 (v := nI 24) (by decide) ?_
  refine v_iload_n h0 d_Mo_typeOf_43 4 rfl ?_
  refine v_imul h0 d_Mo_typeOf_44 ?_
  refine v_int (nI (24 * c)) (pk_mul 24 c) ?_
  refine v_iload h0 d_Mo_typeOf_45 0 rfl ?_
  refine v_iadd h0 d_Mo_typeOf_47 ?_
  refine v_int (nI (24 * c + p)) (nI_add (24 * c) p) ?_
  refine a_Mo_label_ h0 hC (24 * c + p) (rfl) (by omega) d_Mo_typeOf_48 ?_
  refine v_int (0) (hl) ?_
  refine v_if_ne h0 d_Mo_typeOf_49 rfl (fun h49 => absurd h49 (fun z => z rfl)) (fun h49 => ?_)
  refine v_aload_n h0 d_Mo_typeOf_52 3 rfl ?_
  refine v_iload_n h0 d_Mo_typeOf_53 4 rfl ?_
  refine v_iload h0 d_Mo_typeOf_54 0 rfl ?_
  refine v_callV h0 hC (sR_N0 g) 0 (show 0 < 22 by omega) (show enR g 0 _ = _ from rfl) rfl (av := [.int (nI c), .int (nI p)]) (rest := []) (m_Mo_charAt (kl K) g hI M hc (by omega) hT) wd_564 wd_561 wd_563 ws_32 wd_6 hd_Mo_charAt (by omega) (by decide) rfl rfl (Nat.le_of_ble_eq_true rfl) d_Mo_typeOf_56 (fun r9 M9 hp9 => ?_)
  obtain ⟨rfl, rfl⟩ := hp9
  refine v_r1 ?_
  refine v_int (s p) (if_pos hp) ?_
  refine v_istore h0 d_Mo_typeOf_59 (lv' := [(5, .int (s p)), (4, .int (nI p)), (3, .int (nI f)), (2, .int (bI gd)), (0, .ref (ga g 0)), (1, .int (nI c))]) (lt_kn hn (by decide)) rfl ?_
  refine v_iload h0 d_Mo_typeOf_61 0 rfl ?_
  refine v_callS h0 hC (sR_N0 g) (av := [.int (s p)]) (rest := []) (m_Mo_isDigit (kl K) g hI _ _) wd_574 wd_572 wd_573 wd_6 hd_Mo_isDigit (by omega) (by decide) rfl rfl (Nat.le_of_ble_eq_true rfl) d_Mo_typeOf_63 (fun r9 M9 hp9 => ?_)
  obtain ⟨rfl, rfl⟩ := hp9
  refine v_r1 ?_
  refine b_if_ne h0 d_Mo_typeOf_66 rfl (fun h66 => absurd h66 (by unfold kdB; rw [hx]; decide)) (fun h66 => ?_)
  refine v_iload h0 d_Mo_typeOf_69 0 rfl ?_
  refine v_callS h0 hC (sR_N0 g) (av := [.int (s p)]) (rest := []) (m_Mo_isLocal (kl K) g hI _ _) wd_567 wd_565 wd_566 wd_6 hd_Mo_isLocal (by omega) (by decide) rfl rfl (Nat.le_of_ble_eq_true rfl) d_Mo_typeOf_71 (fun r9 M9 hp9 => ?_)
  obtain ⟨rfl, rfl⟩ := hp9
  refine v_r1 ?_
  refine b_if_eq h0 d_Mo_typeOf_74 rfl (fun h74 => ?_) (fun h74 => absurd h74 (by unfold kdB; rw [hx]; decide))
  refine v_iload h0 d_Mo_typeOf_81 0 rfl ?_
  refine v_callS h0 hC (sR_N0 g) (av := [.int (s p)]) (rest := []) (m_Mo_isName (kl K) g hI _ _) wd_581 wd_579 wd_580 wd_6 hd_Mo_isName (by omega) (by decide) rfl rfl (Nat.le_of_ble_eq_true rfl) d_Mo_typeOf_83 (fun r9 M9 hp9 => ?_)
  obtain ⟨rfl, rfl⟩ := hp9
  refine v_r1 ?_
  refine b_if_eq h0 d_Mo_typeOf_86 rfl (fun h86 => ?_) (fun h86 => absurd h86 (by unfold kdB; rw [hx]; decide))
  refine v_aload_n h0 d_Mo_typeOf_118 4 rfl ?_
  refine v_iload_n h0 d_Mo_typeOf_119 5 rfl ?_
  refine v_iload h0 d_Mo_typeOf_120 1 rfl ?_
  refine v_callV h0 hC (sR_N0 g) 0 (show 0 < 22 by omega) (show enR g 0 _ = _ from rfl) rfl (av := [.int (nI c), .int (nI p)]) (rest := []) (m_Mo_typeOver_5 (kl K) g hI M hc hp hT hx ha h20 ht20 hTx hR9 hk1 hy hj) wd_659 wd_656 wd_658 ws_50 wd_6 hd_Mo_typeOver (by omega) (by decide) rfl rfl (Nat.le_of_ble_eq_true rfl) d_Mo_typeOf_122 (fun r9 M9 hp9 => ?_)
  obtain ⟨rfl, rfl⟩ := hp9
  refine v_r1 ?_
  refine v_istore h0 d_Mo_typeOf_125 (lv' := [(6, .int (tv5 a (fjB β c (nmI (s (p + 1)))))), (5, .int (s p)), (4, .int (nI p)), (3, .int (nI f)), (2, .int (bI gd)), (0, .ref (ga g 0)), (1, .int (nI c))]) (lt_kn hn (by decide)) rfl ?_
  refine v_iload_n h0 d_Mo_typeOf_127 4 rfl ?_
  refine b_if_eq h0 d_Mo_typeOf_128 rfl (fun h128 => ?_) (fun h128 => ?_)
  · skip
    refine v_iconst h0 d_Mo_typeOf_140 (v := nI 0) (by decide) ?_
    refine v_istore_n h0 d_Mo_typeOf_141 (lv' := [(2, .int (nI 0)), (6, .int (tv5 a (fjB β c (nmI (s (p + 1)))))), (5, .int (s p)), (4, .int (nI p)), (3, .int (nI f)), (0, .ref (ga g 0)), (1, .int (nI c))]) (lt_kn hn (by decide)) rfl ?_
    refine v_aload_n h0 d_Mo_typeOf_142 5 rfl ?_
    refine v_iload h0 d_Mo_typeOf_143 1 rfl ?_
    refine v_callV h0 hC (sR_N0 g) 0 (show 0 < 22 by omega) (show enR g 0 _ = _ from rfl) rfl (av := [.int (tv5 a (fjB β c (nmI (s (p + 1)))))]) (rest := []) (m_Mo_pushType (kl K) g hI (up2 M 0 20 (nI (t))) (t := t) _ (by first | exact h20 | exact up2_s _ _ _ _) (by omega)) wd_671 wd_668 wd_670 ws_53 wd_6 hd_Mo_pushType (by omega) (by decide) rfl rfl (Nat.le_of_ble_eq_true rfl) d_Mo_typeOf_145 (fun r9 M9 hp9 => ?_)
    obtain ⟨rfl, rfl⟩ := hp9
    refine v_r0 ?_
    refine v_iinc h0 d_Mo_typeOf_148 (lv' := [(4, .int (pdI p)), (2, .int (nI 0)), (6, .int (tv5 a (fjB β c (nmI (s (p + 1)))))), (5, .int (s p)), (3, .int (nI f)), (0, .ref (ga g 0)), (1, .int (nI c))]) 3 rfl (pd_inc p) (lt_kn hn (by decide)) rfl ?_
    refine v_goto h0 d_Mo_typeOf_151 rfl ?_
    refine v_sub [0, 4, 1, 5, 6] rfl ?_
    refine v_eq kk rfl rfl (by rw [h128, Bool.false_and]; rfl) rfl
  · skip
    refine v_iload h0 d_Mo_typeOf_131 0 rfl ?_
    refine v_if_eq h0 d_Mo_typeOf_133 rfl (fun h133 => ?_) (fun h133 => ?_)
    · skip
      refine v_iconst h0 d_Mo_typeOf_140 (v := nI 0) (by decide) ?_
      refine v_istore_n h0 d_Mo_typeOf_141 (lv' := [(2, .int (nI 0)), (6, .int (tv5 a (fjB β c (nmI (s (p + 1)))))), (5, .int (s p)), (4, .int (nI p)), (3, .int (nI f)), (0, .ref (ga g 0)), (1, .int (nI c))]) (lt_kn hn (by decide)) rfl ?_
      refine v_aload_n h0 d_Mo_typeOf_142 5 rfl ?_
      refine v_iload h0 d_Mo_typeOf_143 1 rfl ?_
      refine v_callV h0 hC (sR_N0 g) 0 (show 0 < 22 by omega) (show enR g 0 _ = _ from rfl) rfl (av := [.int (tv5 a (fjB β c (nmI (s (p + 1)))))]) (rest := []) (m_Mo_pushType (kl K) g hI (up2 M 0 20 (nI (t))) (t := t) _ (by first | exact h20 | exact up2_s _ _ _ _) (by omega)) wd_671 wd_668 wd_670 ws_53 wd_6 hd_Mo_pushType (by omega) (by decide) rfl rfl (Nat.le_of_ble_eq_true rfl) d_Mo_typeOf_145 (fun r9 M9 hp9 => ?_)
      obtain ⟨rfl, rfl⟩ := hp9
      refine v_r0 ?_
      refine v_iinc h0 d_Mo_typeOf_148 (lv' := [(4, .int (pdI p)), (2, .int (nI 0)), (6, .int (tv5 a (fjB β c (nmI (s (p + 1)))))), (5, .int (s p)), (3, .int (nI f)), (0, .ref (ga g 0)), (1, .int (nI c))]) 3 rfl (pd_inc p) (lt_kn hn (by decide)) rfl ?_
      refine v_goto h0 d_Mo_typeOf_151 rfl ?_
      refine v_sub [0, 4, 1, 5, 6] rfl ?_
      refine v_eq kk rfl rfl (by rw [h128, decide_eq_false (fun z => z h133), Bool.and_false]; rfl) rfl
    · skip
      refine v_iconst h0 d_Mo_typeOf_136 (v := nI 1) (by decide) ?_
      refine v_goto h0 d_Mo_typeOf_137 rfl ?_
      refine v_istore_n h0 d_Mo_typeOf_141 (lv' := [(2, .int (nI 1)), (6, .int (tv5 a (fjB β c (nmI (s (p + 1)))))), (5, .int (s p)), (4, .int (nI p)), (3, .int (nI f)), (0, .ref (ga g 0)), (1, .int (nI c))]) (lt_kn hn (by decide)) rfl ?_
      refine v_aload_n h0 d_Mo_typeOf_142 5 rfl ?_
      refine v_iload h0 d_Mo_typeOf_143 1 rfl ?_
      refine v_callV h0 hC (sR_N0 g) 0 (show 0 < 22 by omega) (show enR g 0 _ = _ from rfl) rfl (av := [.int (tv5 a (fjB β c (nmI (s (p + 1)))))]) (rest := []) (m_Mo_pushType (kl K) g hI (up2 M 0 20 (nI (t))) (t := t) _ (by first | exact h20 | exact up2_s _ _ _ _) (by omega)) wd_671 wd_668 wd_670 ws_53 wd_6 hd_Mo_pushType (by omega) (by decide) rfl rfl (Nat.le_of_ble_eq_true rfl) d_Mo_typeOf_145 (fun r9 M9 hp9 => ?_)
      obtain ⟨rfl, rfl⟩ := hp9
      refine v_r0 ?_
      refine v_iinc h0 d_Mo_typeOf_148 (lv' := [(4, .int (pdI p)), (2, .int (nI 1)), (6, .int (tv5 a (fjB β c (nmI (s (p + 1)))))), (5, .int (s p)), (3, .int (nI f)), (0, .ref (ga g 0)), (1, .int (nI c))]) 3 rfl (pd_inc p) (lt_kn hn (by decide)) rfl ?_
      refine v_goto h0 d_Mo_typeOf_151 rfl ?_
      refine v_sub [0, 4, 1, 5, 6] rfl ?_
      refine v_eq kk rfl rfl (by rw [h128, decide_eq_true h133, Bool.and_self]; rfl) rfl
set_option maxHeartbeats 4000000 in
theorem tq_4 {K : Cf} {g : Gd} (hI : sI (sR g)) (h0 : C0 K c_Mo_typeOf) (hC : Cx (sR g) K gC_Mo 4) (hn : kn K = 7) {M : Me} {c n p f t : Nat} {gd : Bool} {s : Nat → Int32} (hc : c < 10) (hT : TR M c s n) (hp : p < n) (hf : f ≤ p) (hl : lbR M c p = 0) (hx : kd (s p) = 4) {a b : Int32} (ha : M 16 (t + 1) = a) (hb : M 16 (t) = b) (h20 : M 0 20 = nI (t + 2)) (ht20 : t ≤ 20) (kk : V K (wp (sR g)) (ptM (up2 (up2 M 0 20 (nI (t + 1))) 0 20 (nI (t))) t (tv4 a b)) 31 [(4, .int (pdI p)), (3, .int (nI f)), (2, .int (bI (gd && decide (¬ tv4 a b = 0)))), (0, .ref (ga g 0)), (1, .int (nI c))] []) : V K (wp (sR g)) M 31 [(4, .int (pdI (p + 1))), (3, .int (nI f)), (2, .int (bI gd)), (0, .ref (ga g 0)), (1, .int (nI c))] [] := by
  have hn24 := hT.2.1
  refine v_eq (?_ : V K (wp (sR g)) M 31 [(4, .int (nI p)), (3, .int (nI f)), (2, .int (bI gd)), (0, .ref (ga g 0)), (1, .int (nI c))] []) rfl rfl (by rw [pd_s]) rfl
  refine v_iload h0 d_Mo_typeOf_31 0 rfl ?_
  refine v_iload_n h0 d_Mo_typeOf_33 1 rfl ?_
  refine n_icmp_lt h0 (by omega) (by omega) d_Mo_typeOf_34 rfl (fun h34 => absurd h34 (by omega)) (fun h34 => ?_)
  refine v_aload_n h0 d_Mo_typeOf_37 3 rfl ?_
  refine g_Mo_label_ h0 hC wd_454 d_Mo_typeOf_38 ?_
  refine v_bipush h0 d_Mo_typeOf_41 (v := nI 24) (by decide) ?_
  refine v_iload_n h0 d_Mo_typeOf_43 4 rfl ?_
  refine v_imul h0 d_Mo_typeOf_44 ?_
  refine v_int (nI (24 * c)) (pk_mul 24 c) ?_
  refine v_iload h0 d_Mo_typeOf_45 0 rfl ?_
  refine v_iadd h0 d_Mo_typeOf_47 ?_
  refine v_int (nI (24 * c + p)) (nI_add (24 * c) p) ?_
  refine a_Mo_label_ h0 hC (24 * c + p) (rfl) (by omega) d_Mo_typeOf_48 ?_
  refine v_int (0) (hl) ?_
  refine v_if_ne h0 d_Mo_typeOf_49 rfl (fun h49 => absurd h49 (fun z => z rfl)) (fun h49 => ?_)
  refine v_aload_n h0 d_Mo_typeOf_52 3 rfl ?_
  refine v_iload_n h0 d_Mo_typeOf_53 4 rfl ?_
  refine v_iload h0 d_Mo_typeOf_54 0 rfl ?_
  refine v_callV h0 hC (sR_N0 g) 0 (show 0 < 22 by omega) (show enR g 0 _ = _ from rfl) rfl (av := [.int (nI c), .int (nI p)]) (rest := []) (m_Mo_charAt (kl K) g hI M hc (by omega) hT) wd_564 wd_561 wd_563 ws_32 wd_6 hd_Mo_charAt (by omega) (by decide) rfl rfl (Nat.le_of_ble_eq_true rfl) d_Mo_typeOf_56 (fun r9 M9 hp9 => ?_)
  obtain ⟨rfl, rfl⟩ := hp9
  refine v_r1 ?_
  refine v_int (s p) (if_pos hp) ?_
  refine v_istore h0 d_Mo_typeOf_59 (lv' := [(5, .int (s p)), (4, .int (nI p)), (3, .int (nI f)), (2, .int (bI gd)), (0, .ref (ga g 0)), (1, .int (nI c))]) (lt_kn hn (by decide)) rfl ?_
  refine v_iload h0 d_Mo_typeOf_61 0 rfl ?_
  refine v_callS h0 hC (sR_N0 g) (av := [.int (s p)]) (rest := []) (m_Mo_isDigit (kl K) g hI _ _) wd_574 wd_572 wd_573 wd_6 hd_Mo_isDigit (by omega) (by decide) rfl rfl (Nat.le_of_ble_eq_true rfl) d_Mo_typeOf_63 (fun r9 M9 hp9 => ?_)
  obtain ⟨rfl, rfl⟩ := hp9
  refine v_r1 ?_
  refine b_if_ne h0 d_Mo_typeOf_66 rfl (fun h66 => absurd h66 (by unfold kdB; rw [hx]; decide)) (fun h66 => ?_)
  refine v_iload h0 d_Mo_typeOf_69 0 rfl ?_
  refine v_callS h0 hC (sR_N0 g) (av := [.int (s p)]) (rest := []) (m_Mo_isLocal (kl K) g hI _ _) wd_567 wd_565 wd_566 wd_6 hd_Mo_isLocal (by omega) (by decide) rfl rfl (Nat.le_of_ble_eq_true rfl) d_Mo_typeOf_71 (fun r9 M9 hp9 => ?_)
  obtain ⟨rfl, rfl⟩ := hp9
  refine v_r1 ?_
  refine b_if_eq h0 d_Mo_typeOf_74 rfl (fun h74 => ?_) (fun h74 => absurd h74 (by unfold kdB; rw [hx]; decide))
  refine v_iload h0 d_Mo_typeOf_81 0 rfl ?_
  refine v_callS h0 hC (sR_N0 g) (av := [.int (s p)]) (rest := []) (m_Mo_isName (kl K) g hI _ _) wd_581 wd_579 wd_580 wd_6 hd_Mo_isName (by omega) (by decide) rfl rfl (Nat.le_of_ble_eq_true rfl) d_Mo_typeOf_83 (fun r9 M9 hp9 => ?_)
  obtain ⟨rfl, rfl⟩ := hp9
  refine v_r1 ?_
  refine b_if_eq h0 d_Mo_typeOf_86 rfl (fun h86 => ?_) (fun h86 => absurd h86 (by unfold kdB; rw [hx]; decide))
  refine v_aload_n h0 d_Mo_typeOf_118 4 rfl ?_
  refine v_iload_n h0 d_Mo_typeOf_119 5 rfl ?_
  refine v_iload h0 d_Mo_typeOf_120 1 rfl ?_
  refine v_callV h0 hC (sR_N0 g) 0 (show 0 < 22 by omega) (show enR g 0 _ = _ from rfl) rfl (av := [.int (nI c), .int (nI p)]) (rest := []) (m_Mo_typeOver_4 (kl K) g hI M hc hp hT hx ha hb h20 ht20) wd_659 wd_656 wd_658 ws_50 wd_6 hd_Mo_typeOver (by omega) (by decide) rfl rfl (Nat.le_of_ble_eq_true rfl) d_Mo_typeOf_122 (fun r9 M9 hp9 => ?_)
  obtain ⟨rfl, rfl⟩ := hp9
  refine v_r1 ?_
  refine v_istore h0 d_Mo_typeOf_125 (lv' := [(6, .int (tv4 a b)), (5, .int (s p)), (4, .int (nI p)), (3, .int (nI f)), (2, .int (bI gd)), (0, .ref (ga g 0)), (1, .int (nI c))]) (lt_kn hn (by decide)) rfl ?_
  refine v_iload_n h0 d_Mo_typeOf_127 4 rfl ?_
  refine b_if_eq h0 d_Mo_typeOf_128 rfl (fun h128 => ?_) (fun h128 => ?_)
  · skip
    refine v_iconst h0 d_Mo_typeOf_140 (v := nI 0) (by decide) ?_
    refine v_istore_n h0 d_Mo_typeOf_141 (lv' := [(2, .int (nI 0)), (6, .int (tv4 a b)), (5, .int (s p)), (4, .int (nI p)), (3, .int (nI f)), (0, .ref (ga g 0)), (1, .int (nI c))]) (lt_kn hn (by decide)) rfl ?_
    refine v_aload_n h0 d_Mo_typeOf_142 5 rfl ?_
    refine v_iload h0 d_Mo_typeOf_143 1 rfl ?_
    refine v_callV h0 hC (sR_N0 g) 0 (show 0 < 22 by omega) (show enR g 0 _ = _ from rfl) rfl (av := [.int (tv4 a b)]) (rest := []) (m_Mo_pushType (kl K) g hI (up2 (up2 M 0 20 (nI (t + 1))) 0 20 (nI (t))) (t := t) _ (by first | exact h20 | exact up2_s _ _ _ _) (by omega)) wd_671 wd_668 wd_670 ws_53 wd_6 hd_Mo_pushType (by omega) (by decide) rfl rfl (Nat.le_of_ble_eq_true rfl) d_Mo_typeOf_145 (fun r9 M9 hp9 => ?_)
    obtain ⟨rfl, rfl⟩ := hp9
    refine v_r0 ?_
    refine v_iinc h0 d_Mo_typeOf_148 (lv' := [(4, .int (pdI p)), (2, .int (nI 0)), (6, .int (tv4 a b)), (5, .int (s p)), (3, .int (nI f)), (0, .ref (ga g 0)), (1, .int (nI c))]) 3 rfl (pd_inc p) (lt_kn hn (by decide)) rfl ?_
    refine v_goto h0 d_Mo_typeOf_151 rfl ?_
    refine v_sub [0, 4, 1, 5, 6] rfl ?_
    refine v_eq kk rfl rfl (by rw [h128, Bool.false_and]; rfl) rfl
  · skip
    refine v_iload h0 d_Mo_typeOf_131 0 rfl ?_
    refine v_if_eq h0 d_Mo_typeOf_133 rfl (fun h133 => ?_) (fun h133 => ?_)
    · skip
      refine v_iconst h0 d_Mo_typeOf_140 (v := nI 0) (by decide) ?_
      refine v_istore_n h0 d_Mo_typeOf_141 (lv' := [(2, .int (nI 0)), (6, .int (tv4 a b)), (5, .int (s p)), (4, .int (nI p)), (3, .int (nI f)), (0, .ref (ga g 0)), (1, .int (nI c))]) (lt_kn hn (by decide)) rfl ?_
      refine v_aload_n h0 d_Mo_typeOf_142 5 rfl ?_
      refine v_iload h0 d_Mo_typeOf_143 1 rfl ?_
      refine v_callV h0 hC (sR_N0 g) 0 (show 0 < 22 by omega) (show enR g 0 _ = _ from rfl) rfl (av := [.int (tv4 a b)]) (rest := []) (m_Mo_pushType (kl K) g hI (up2 (up2 M 0 20 (nI (t + 1))) 0 20 (nI (t))) (t := t) _ (by first | exact h20 | exact up2_s _ _ _ _) (by omega)) wd_671 wd_668 wd_670 ws_53 wd_6 hd_Mo_pushType (by omega) (by decide) rfl rfl (Nat.le_of_ble_eq_true rfl) d_Mo_typeOf_145 (fun r9 M9 hp9 => ?_)
      obtain ⟨rfl, rfl⟩ := hp9
      refine v_r0 ?_
      refine v_iinc h0 d_Mo_typeOf_148 (lv' := [(4, .int (pdI p)), (2, .int (nI 0)), (6, .int (tv4 a b)), (5, .int (s p)), (3, .int (nI f)), (0, .ref (ga g 0)), (1, .int (nI c))]) 3 rfl (pd_inc p) (lt_kn hn (by decide)) rfl ?_
      refine v_goto h0 d_Mo_typeOf_151 rfl ?_
      refine v_sub [0, 4, 1, 5, 6] rfl ?_
      refine v_eq kk rfl rfl (by rw [h128, decide_eq_false (fun z => z h133), Bool.and_false]; rfl) rfl
    · skip
      refine v_iconst h0 d_Mo_typeOf_136 (v := nI 1) (by decide) ?_
      refine v_goto h0 d_Mo_typeOf_137 rfl ?_
      refine v_istore_n h0 d_Mo_typeOf_141 (lv' := [(2, .int (nI 1)), (6, .int (tv4 a b)), (5, .int (s p)), (4, .int (nI p)), (3, .int (nI f)), (0, .ref (ga g 0)), (1, .int (nI c))]) (lt_kn hn (by decide)) rfl ?_
      refine v_aload_n h0 d_Mo_typeOf_142 5 rfl ?_
      refine v_iload h0 d_Mo_typeOf_143 1 rfl ?_
      refine v_callV h0 hC (sR_N0 g) 0 (show 0 < 22 by omega) (show enR g 0 _ = _ from rfl) rfl (av := [.int (tv4 a b)]) (rest := []) (m_Mo_pushType (kl K) g hI (up2 (up2 M 0 20 (nI (t + 1))) 0 20 (nI (t))) (t := t) _ (by first | exact h20 | exact up2_s _ _ _ _) (by omega)) wd_671 wd_668 wd_670 ws_53 wd_6 hd_Mo_pushType (by omega) (by decide) rfl rfl (Nat.le_of_ble_eq_true rfl) d_Mo_typeOf_145 (fun r9 M9 hp9 => ?_)
      obtain ⟨rfl, rfl⟩ := hp9
      refine v_r0 ?_
      refine v_iinc h0 d_Mo_typeOf_148 (lv' := [(4, .int (pdI p)), (2, .int (nI 1)), (6, .int (tv4 a b)), (5, .int (s p)), (3, .int (nI f)), (0, .ref (ga g 0)), (1, .int (nI c))]) 3 rfl (pd_inc p) (lt_kn hn (by decide)) rfl ?_
      refine v_goto h0 d_Mo_typeOf_151 rfl ?_
      refine v_sub [0, 4, 1, 5, 6] rfl ?_
      refine v_eq kk rfl rfl (by rw [h128, decide_eq_true h133, Bool.and_self]; rfl) rfl
set_option maxHeartbeats 4000000 in
theorem tq_2 {K : Cf} {g : Gd} (hI : sI (sR g)) (h0 : C0 K c_Mo_typeOf) (hC : Cx (sR g) K gC_Mo 4) (hn : kn K = 7) {M : Me} {c n p f t : Nat} {gd : Bool} {s : Nat → Int32} (hc : c < 10) (hT : TR M c s n) (hp : p < n) (hf : f ≤ p) (hl : lbR M c p = 0) (hx : kd (s p) = 2) {a b : Int32} (ha : M 16 (t + 1) = a) (hb : M 16 (t) = b) (h20 : M 0 20 = nI (t + 2)) (ht20 : t ≤ 20) (kk : V K (wp (sR g)) (ptM (up2 (up2 M 0 20 (nI (t + 1))) 0 20 (nI (t))) t (tv2 (s p) a b)) 31 [(4, .int (pdI p)), (3, .int (nI f)), (2, .int (bI (gd && decide (¬ tv2 (s p) a b = 0)))), (0, .ref (ga g 0)), (1, .int (nI c))] []) : V K (wp (sR g)) M 31 [(4, .int (pdI (p + 1))), (3, .int (nI f)), (2, .int (bI gd)), (0, .ref (ga g 0)), (1, .int (nI c))] [] := by
  have hn24 := hT.2.1
  refine v_eq (?_ : V K (wp (sR g)) M 31 [(4, .int (nI p)), (3, .int (nI f)), (2, .int (bI gd)), (0, .ref (ga g 0)), (1, .int (nI c))] []) rfl rfl (by rw [pd_s]) rfl
  refine v_iload h0 d_Mo_typeOf_31 0 rfl ?_
  refine v_iload_n h0 d_Mo_typeOf_33 1 rfl ?_
  refine n_icmp_lt h0 (by omega) (by omega) d_Mo_typeOf_34 rfl (fun h34 => absurd h34 (by omega)) (fun h34 => ?_)
  refine v_aload_n h0 d_Mo_typeOf_37 3 rfl ?_
  refine g_Mo_label_ h0 hC wd_454 d_Mo_typeOf_38 ?_
  refine v_bipush h0 d_Mo_typeOf_41 (v := nI 24) (by decide) ?_
  refine v_iload_n h0 d_Mo_typeOf_43 4 rfl ?_
  refine v_imul h0 d_Mo_typeOf_44 ?_
  refine v_int (nI (24 * c)) (pk_mul 24 c) ?_
  refine v_iload h0 d_Mo_typeOf_45 0 rfl ?_
  refine v_iadd h0 d_Mo_typeOf_47 ?_
  refine v_int (nI (24 * c + p)) (nI_add (24 * c) p) ?_
  refine a_Mo_label_ h0 hC (24 * c + p) (rfl) (by omega) d_Mo_typeOf_48 ?_
  refine v_int (0) (hl) ?_
  refine v_if_ne h0 d_Mo_typeOf_49 rfl (fun h49 => absurd h49 (fun z => z rfl)) (fun h49 => ?_)
  refine v_aload_n h0 d_Mo_typeOf_52 3 rfl ?_
  refine v_iload_n h0 d_Mo_typeOf_53 4 rfl ?_
  refine v_iload h0 d_Mo_typeOf_54 0 rfl ?_
  refine v_callV h0 hC (sR_N0 g) 0 (show 0 < 22 by omega) (show enR g 0 _ = _ from rfl) rfl (av := [.int (nI c), .int (nI p)]) (rest := []) (m_Mo_charAt (kl K) g hI M hc (by omega) hT) wd_564 wd_561 wd_563 ws_32 wd_6 hd_Mo_charAt (by omega) (by decide) rfl rfl (Nat.le_of_ble_eq_true rfl) d_Mo_typeOf_56 (fun r9 M9 hp9 => ?_)
  obtain ⟨rfl, rfl⟩ := hp9
  refine v_r1 ?_
  refine v_int (s p) (if_pos hp) ?_
  refine v_istore h0 d_Mo_typeOf_59 (lv' := [(5, .int (s p)), (4, .int (nI p)), (3, .int (nI f)), (2, .int (bI gd)), (0, .ref (ga g 0)), (1, .int (nI c))]) (lt_kn hn (by decide)) rfl ?_
  refine v_iload h0 d_Mo_typeOf_61 0 rfl ?_
  refine v_callS h0 hC (sR_N0 g) (av := [.int (s p)]) (rest := []) (m_Mo_isDigit (kl K) g hI _ _) wd_574 wd_572 wd_573 wd_6 hd_Mo_isDigit (by omega) (by decide) rfl rfl (Nat.le_of_ble_eq_true rfl) d_Mo_typeOf_63 (fun r9 M9 hp9 => ?_)
  obtain ⟨rfl, rfl⟩ := hp9
  refine v_r1 ?_
  refine b_if_ne h0 d_Mo_typeOf_66 rfl (fun h66 => absurd h66 (by unfold kdB; rw [hx]; decide)) (fun h66 => ?_)
  refine v_iload h0 d_Mo_typeOf_69 0 rfl ?_
  refine v_callS h0 hC (sR_N0 g) (av := [.int (s p)]) (rest := []) (m_Mo_isLocal (kl K) g hI _ _) wd_567 wd_565 wd_566 wd_6 hd_Mo_isLocal (by omega) (by decide) rfl rfl (Nat.le_of_ble_eq_true rfl) d_Mo_typeOf_71 (fun r9 M9 hp9 => ?_)
  obtain ⟨rfl, rfl⟩ := hp9
  refine v_r1 ?_
  refine b_if_eq h0 d_Mo_typeOf_74 rfl (fun h74 => ?_) (fun h74 => absurd h74 (by unfold kdB; rw [hx]; decide))
  refine v_iload h0 d_Mo_typeOf_81 0 rfl ?_
  refine v_callS h0 hC (sR_N0 g) (av := [.int (s p)]) (rest := []) (m_Mo_isName (kl K) g hI _ _) wd_581 wd_579 wd_580 wd_6 hd_Mo_isName (by omega) (by decide) rfl rfl (Nat.le_of_ble_eq_true rfl) d_Mo_typeOf_83 (fun r9 M9 hp9 => ?_)
  obtain ⟨rfl, rfl⟩ := hp9
  refine v_r1 ?_
  refine b_if_eq h0 d_Mo_typeOf_86 rfl (fun h86 => ?_) (fun h86 => absurd h86 (by unfold kdB; rw [hx]; decide))
  refine v_aload_n h0 d_Mo_typeOf_118 4 rfl ?_
  refine v_iload_n h0 d_Mo_typeOf_119 5 rfl ?_
  refine v_iload h0 d_Mo_typeOf_120 1 rfl ?_
  refine v_callV h0 hC (sR_N0 g) 0 (show 0 < 22 by omega) (show enR g 0 _ = _ from rfl) rfl (av := [.int (nI c), .int (nI p)]) (rest := []) (m_Mo_typeOver_2 (kl K) g hI M hc hp hT hx ha hb h20 ht20) wd_659 wd_656 wd_658 ws_50 wd_6 hd_Mo_typeOver (by omega) (by decide) rfl rfl (Nat.le_of_ble_eq_true rfl) d_Mo_typeOf_122 (fun r9 M9 hp9 => ?_)
  obtain ⟨rfl, rfl⟩ := hp9
  refine v_r1 ?_
  refine v_istore h0 d_Mo_typeOf_125 (lv' := [(6, .int (tv2 (s p) a b)), (5, .int (s p)), (4, .int (nI p)), (3, .int (nI f)), (2, .int (bI gd)), (0, .ref (ga g 0)), (1, .int (nI c))]) (lt_kn hn (by decide)) rfl ?_
  refine v_iload_n h0 d_Mo_typeOf_127 4 rfl ?_
  refine b_if_eq h0 d_Mo_typeOf_128 rfl (fun h128 => ?_) (fun h128 => ?_)
  · skip
    refine v_iconst h0 d_Mo_typeOf_140 (v := nI 0) (by decide) ?_
    refine v_istore_n h0 d_Mo_typeOf_141 (lv' := [(2, .int (nI 0)), (6, .int (tv2 (s p) a b)), (5, .int (s p)), (4, .int (nI p)), (3, .int (nI f)), (0, .ref (ga g 0)), (1, .int (nI c))]) (lt_kn hn (by decide)) rfl ?_
    refine v_aload_n h0 d_Mo_typeOf_142 5 rfl ?_
    refine v_iload h0 d_Mo_typeOf_143 1 rfl ?_
    refine v_callV h0 hC (sR_N0 g) 0 (show 0 < 22 by omega) (show enR g 0 _ = _ from rfl) rfl (av := [.int (tv2 (s p) a b)]) (rest := []) (m_Mo_pushType (kl K) g hI (up2 (up2 M 0 20 (nI (t + 1))) 0 20 (nI (t))) (t := t) _ (by first | exact h20 | exact up2_s _ _ _ _) (by omega)) wd_671 wd_668 wd_670 ws_53 wd_6 hd_Mo_pushType (by omega) (by decide) rfl rfl (Nat.le_of_ble_eq_true rfl) d_Mo_typeOf_145 (fun r9 M9 hp9 => ?_)
    obtain ⟨rfl, rfl⟩ := hp9
    refine v_r0 ?_
    refine v_iinc h0 d_Mo_typeOf_148 (lv' := [(4, .int (pdI p)), (2, .int (nI 0)), (6, .int (tv2 (s p) a b)), (5, .int (s p)), (3, .int (nI f)), (0, .ref (ga g 0)), (1, .int (nI c))]) 3 rfl (pd_inc p) (lt_kn hn (by decide)) rfl ?_
    refine v_goto h0 d_Mo_typeOf_151 rfl ?_
    refine v_sub [0, 4, 1, 5, 6] rfl ?_
    refine v_eq kk rfl rfl (by rw [h128, Bool.false_and]; rfl) rfl
  · skip
    refine v_iload h0 d_Mo_typeOf_131 0 rfl ?_
    refine v_if_eq h0 d_Mo_typeOf_133 rfl (fun h133 => ?_) (fun h133 => ?_)
    · skip
      refine v_iconst h0 d_Mo_typeOf_140 (v := nI 0) (by decide) ?_
      refine v_istore_n h0 d_Mo_typeOf_141 (lv' := [(2, .int (nI 0)), (6, .int (tv2 (s p) a b)), (5, .int (s p)), (4, .int (nI p)), (3, .int (nI f)), (0, .ref (ga g 0)), (1, .int (nI c))]) (lt_kn hn (by decide)) rfl ?_
      refine v_aload_n h0 d_Mo_typeOf_142 5 rfl ?_
      refine v_iload h0 d_Mo_typeOf_143 1 rfl ?_
      refine v_callV h0 hC (sR_N0 g) 0 (show 0 < 22 by omega) (show enR g 0 _ = _ from rfl) rfl (av := [.int (tv2 (s p) a b)]) (rest := []) (m_Mo_pushType (kl K) g hI (up2 (up2 M 0 20 (nI (t + 1))) 0 20 (nI (t))) (t := t) _ (by first | exact h20 | exact up2_s _ _ _ _) (by omega)) wd_671 wd_668 wd_670 ws_53 wd_6 hd_Mo_pushType (by omega) (by decide) rfl rfl (Nat.le_of_ble_eq_true rfl) d_Mo_typeOf_145 (fun r9 M9 hp9 => ?_)
      obtain ⟨rfl, rfl⟩ := hp9
      refine v_r0 ?_
      refine v_iinc h0 d_Mo_typeOf_148 (lv' := [(4, .int (pdI p)), (2, .int (nI 0)), (6, .int (tv2 (s p) a b)), (5, .int (s p)), (3, .int (nI f)), (0, .ref (ga g 0)), (1, .int (nI c))]) 3 rfl (pd_inc p) (lt_kn hn (by decide)) rfl ?_
      refine v_goto h0 d_Mo_typeOf_151 rfl ?_
      refine v_sub [0, 4, 1, 5, 6] rfl ?_
      refine v_eq kk rfl rfl (by rw [h128, decide_eq_false (fun z => z h133), Bool.and_false]; rfl) rfl
    · skip
      refine v_iconst h0 d_Mo_typeOf_136 (v := nI 1) (by decide) ?_
      refine v_goto h0 d_Mo_typeOf_137 rfl ?_
      refine v_istore_n h0 d_Mo_typeOf_141 (lv' := [(2, .int (nI 1)), (6, .int (tv2 (s p) a b)), (5, .int (s p)), (4, .int (nI p)), (3, .int (nI f)), (0, .ref (ga g 0)), (1, .int (nI c))]) (lt_kn hn (by decide)) rfl ?_
      refine v_aload_n h0 d_Mo_typeOf_142 5 rfl ?_
      refine v_iload h0 d_Mo_typeOf_143 1 rfl ?_
      refine v_callV h0 hC (sR_N0 g) 0 (show 0 < 22 by omega) (show enR g 0 _ = _ from rfl) rfl (av := [.int (tv2 (s p) a b)]) (rest := []) (m_Mo_pushType (kl K) g hI (up2 (up2 M 0 20 (nI (t + 1))) 0 20 (nI (t))) (t := t) _ (by first | exact h20 | exact up2_s _ _ _ _) (by omega)) wd_671 wd_668 wd_670 ws_53 wd_6 hd_Mo_pushType (by omega) (by decide) rfl rfl (Nat.le_of_ble_eq_true rfl) d_Mo_typeOf_145 (fun r9 M9 hp9 => ?_)
      obtain ⟨rfl, rfl⟩ := hp9
      refine v_r0 ?_
      refine v_iinc h0 d_Mo_typeOf_148 (lv' := [(4, .int (pdI p)), (2, .int (nI 1)), (6, .int (tv2 (s p) a b)), (5, .int (s p)), (3, .int (nI f)), (0, .ref (ga g 0)), (1, .int (nI c))]) 3 rfl (pd_inc p) (lt_kn hn (by decide)) rfl ?_
      refine v_goto h0 d_Mo_typeOf_151 rfl ?_
      refine v_sub [0, 4, 1, 5, 6] rfl ?_
      refine v_eq kk rfl rfl (by rw [h128, decide_eq_true h133, Bool.and_self]; rfl) rfl
set_option maxHeartbeats 4000000 in
theorem tq_3 {K : Cf} {g : Gd} (hI : sI (sR g)) (h0 : C0 K c_Mo_typeOf) (hC : Cx (sR g) K gC_Mo 4) (hn : kn K = 7) {M : Me} {c n p f t : Nat} {gd : Bool} {s : Nat → Int32} (hc : c < 10) (hT : TR M c s n) (hp : p < n) (hf : f ≤ p) (hl : lbR M c p = 0) (hx : kd (s p) = 3) {a b d : Int32} (ha : M 16 (t + 2) = a) (hb : M 16 (t + 1) = b) (hd : M 16 (t) = d) (h20 : M 0 20 = nI (t + 3)) (ht20 : t ≤ 20) (kk : V K (wp (sR g)) (ptM (up2 (up2 (up2 M 0 20 (nI (t + 2))) 0 20 (nI (t + 1))) 0 20 (nI (t))) t (tv3 a b d)) 31 [(4, .int (pdI p)), (3, .int (nI f)), (2, .int (bI (gd && decide (¬ tv3 a b d = 0)))), (0, .ref (ga g 0)), (1, .int (nI c))] []) : V K (wp (sR g)) M 31 [(4, .int (pdI (p + 1))), (3, .int (nI f)), (2, .int (bI gd)), (0, .ref (ga g 0)), (1, .int (nI c))] [] := by
  have hn24 := hT.2.1
  refine v_eq (?_ : V K (wp (sR g)) M 31 [(4, .int (nI p)), (3, .int (nI f)), (2, .int (bI gd)), (0, .ref (ga g 0)), (1, .int (nI c))] []) rfl rfl (by rw [pd_s]) rfl
  refine v_iload h0 d_Mo_typeOf_31 0 rfl ?_
  refine v_iload_n h0 d_Mo_typeOf_33 1 rfl ?_
  refine n_icmp_lt h0 (by omega) (by omega) d_Mo_typeOf_34 rfl (fun h34 => absurd h34 (by omega)) (fun h34 => ?_)
  refine v_aload_n h0 d_Mo_typeOf_37 3 rfl ?_
  refine g_Mo_label_ h0 hC wd_454 d_Mo_typeOf_38 ?_
  refine v_bipush h0 d_Mo_typeOf_41 (v := nI 24) (by decide) ?_
  refine v_iload_n h0 d_Mo_typeOf_43 4 rfl ?_
  refine v_imul h0 d_Mo_typeOf_44 ?_
  refine v_int (nI (24 * c)) (pk_mul 24 c) ?_
  refine v_iload h0 d_Mo_typeOf_45 0 rfl ?_
  refine v_iadd h0 d_Mo_typeOf_47 ?_
  refine v_int (nI (24 * c + p)) (nI_add (24 * c) p) ?_
  refine a_Mo_label_ h0 hC (24 * c + p) (rfl) (by omega) d_Mo_typeOf_48 ?_
  refine v_int (0) (hl) ?_
  refine v_if_ne h0 d_Mo_typeOf_49 rfl (fun h49 => absurd h49 (fun z => z rfl)) (fun h49 => ?_)
  refine v_aload_n h0 d_Mo_typeOf_52 3 rfl ?_
  refine v_iload_n h0 d_Mo_typeOf_53 4 rfl ?_
  refine v_iload h0 d_Mo_typeOf_54 0 rfl ?_
  refine v_callV h0 hC (sR_N0 g) 0 (show 0 < 22 by omega) (show enR g 0 _ = _ from rfl) rfl (av := [.int (nI c), .int (nI p)]) (rest := []) (m_Mo_charAt (kl K) g hI M hc (by omega) hT) wd_564 wd_561 wd_563 ws_32 wd_6 hd_Mo_charAt (by omega) (by decide) rfl rfl (Nat.le_of_ble_eq_true rfl) d_Mo_typeOf_56 (fun r9 M9 hp9 => ?_)
  obtain ⟨rfl, rfl⟩ := hp9
  refine v_r1 ?_
  refine v_int (s p) (if_pos hp) ?_
  refine v_istore h0 d_Mo_typeOf_59 (lv' := [(5, .int (s p)), (4, .int (nI p)), (3, .int (nI f)), (2, .int (bI gd)), (0, .ref (ga g 0)), (1, .int (nI c))]) (lt_kn hn (by decide)) rfl ?_
  refine v_iload h0 d_Mo_typeOf_61 0 rfl ?_
  refine v_callS h0 hC (sR_N0 g) (av := [.int (s p)]) (rest := []) (m_Mo_isDigit (kl K) g hI _ _) wd_574 wd_572 wd_573 wd_6 hd_Mo_isDigit (by omega) (by decide) rfl rfl (Nat.le_of_ble_eq_true rfl) d_Mo_typeOf_63 (fun r9 M9 hp9 => ?_)
  obtain ⟨rfl, rfl⟩ := hp9
  refine v_r1 ?_
  refine b_if_ne h0 d_Mo_typeOf_66 rfl (fun h66 => absurd h66 (by unfold kdB; rw [hx]; decide)) (fun h66 => ?_)
  refine v_iload h0 d_Mo_typeOf_69 0 rfl ?_
  refine v_callS h0 hC (sR_N0 g) (av := [.int (s p)]) (rest := []) (m_Mo_isLocal (kl K) g hI _ _) wd_567 wd_565 wd_566 wd_6 hd_Mo_isLocal (by omega) (by decide) rfl rfl (Nat.le_of_ble_eq_true rfl) d_Mo_typeOf_71 (fun r9 M9 hp9 => ?_)
  obtain ⟨rfl, rfl⟩ := hp9
  refine v_r1 ?_
  refine b_if_eq h0 d_Mo_typeOf_74 rfl (fun h74 => ?_) (fun h74 => absurd h74 (by unfold kdB; rw [hx]; decide))
  refine v_iload h0 d_Mo_typeOf_81 0 rfl ?_
  refine v_callS h0 hC (sR_N0 g) (av := [.int (s p)]) (rest := []) (m_Mo_isName (kl K) g hI _ _) wd_581 wd_579 wd_580 wd_6 hd_Mo_isName (by omega) (by decide) rfl rfl (Nat.le_of_ble_eq_true rfl) d_Mo_typeOf_83 (fun r9 M9 hp9 => ?_)
  obtain ⟨rfl, rfl⟩ := hp9
  refine v_r1 ?_
  refine b_if_eq h0 d_Mo_typeOf_86 rfl (fun h86 => ?_) (fun h86 => absurd h86 (by unfold kdB; rw [hx]; decide))
  refine v_aload_n h0 d_Mo_typeOf_118 4 rfl ?_
  refine v_iload_n h0 d_Mo_typeOf_119 5 rfl ?_
  refine v_iload h0 d_Mo_typeOf_120 1 rfl ?_
  refine v_callV h0 hC (sR_N0 g) 0 (show 0 < 22 by omega) (show enR g 0 _ = _ from rfl) rfl (av := [.int (nI c), .int (nI p)]) (rest := []) (m_Mo_typeOver_3 (kl K) g hI M hc hp hT hx ha hb hd h20 ht20) wd_659 wd_656 wd_658 ws_50 wd_6 hd_Mo_typeOver (by omega) (by decide) rfl rfl (Nat.le_of_ble_eq_true rfl) d_Mo_typeOf_122 (fun r9 M9 hp9 => ?_)
  obtain ⟨rfl, rfl⟩ := hp9
  refine v_r1 ?_
  refine v_istore h0 d_Mo_typeOf_125 (lv' := [(6, .int (tv3 a b d)), (5, .int (s p)), (4, .int (nI p)), (3, .int (nI f)), (2, .int (bI gd)), (0, .ref (ga g 0)), (1, .int (nI c))]) (lt_kn hn (by decide)) rfl ?_
  refine v_iload_n h0 d_Mo_typeOf_127 4 rfl ?_
  refine b_if_eq h0 d_Mo_typeOf_128 rfl (fun h128 => ?_) (fun h128 => ?_)
  · skip
    refine v_iconst h0 d_Mo_typeOf_140 (v := nI 0) (by decide) ?_
    refine v_istore_n h0 d_Mo_typeOf_141 (lv' := [(2, .int (nI 0)), (6, .int (tv3 a b d)), (5, .int (s p)), (4, .int (nI p)), (3, .int (nI f)), (0, .ref (ga g 0)), (1, .int (nI c))]) (lt_kn hn (by decide)) rfl ?_
    refine v_aload_n h0 d_Mo_typeOf_142 5 rfl ?_
    refine v_iload h0 d_Mo_typeOf_143 1 rfl ?_
    refine v_callV h0 hC (sR_N0 g) 0 (show 0 < 22 by omega) (show enR g 0 _ = _ from rfl) rfl (av := [.int (tv3 a b d)]) (rest := []) (m_Mo_pushType (kl K) g hI (up2 (up2 (up2 M 0 20 (nI (t + 2))) 0 20 (nI (t + 1))) 0 20 (nI (t))) (t := t) _ (by first | exact h20 | exact up2_s _ _ _ _) (by omega)) wd_671 wd_668 wd_670 ws_53 wd_6 hd_Mo_pushType (by omega) (by decide) rfl rfl (Nat.le_of_ble_eq_true rfl) d_Mo_typeOf_145 (fun r9 M9 hp9 => ?_)
    obtain ⟨rfl, rfl⟩ := hp9
    refine v_r0 ?_
    refine v_iinc h0 d_Mo_typeOf_148 (lv' := [(4, .int (pdI p)), (2, .int (nI 0)), (6, .int (tv3 a b d)), (5, .int (s p)), (3, .int (nI f)), (0, .ref (ga g 0)), (1, .int (nI c))]) 3 rfl (pd_inc p) (lt_kn hn (by decide)) rfl ?_
    refine v_goto h0 d_Mo_typeOf_151 rfl ?_
    refine v_sub [0, 4, 1, 5, 6] rfl ?_
    refine v_eq kk rfl rfl (by rw [h128, Bool.false_and]; rfl) rfl
  · skip
    refine v_iload h0 d_Mo_typeOf_131 0 rfl ?_
    refine v_if_eq h0 d_Mo_typeOf_133 rfl (fun h133 => ?_) (fun h133 => ?_)
    · skip
      refine v_iconst h0 d_Mo_typeOf_140 (v := nI 0) (by decide) ?_
      refine v_istore_n h0 d_Mo_typeOf_141 (lv' := [(2, .int (nI 0)), (6, .int (tv3 a b d)), (5, .int (s p)), (4, .int (nI p)), (3, .int (nI f)), (0, .ref (ga g 0)), (1, .int (nI c))]) (lt_kn hn (by decide)) rfl ?_
      refine v_aload_n h0 d_Mo_typeOf_142 5 rfl ?_
      refine v_iload h0 d_Mo_typeOf_143 1 rfl ?_
      refine v_callV h0 hC (sR_N0 g) 0 (show 0 < 22 by omega) (show enR g 0 _ = _ from rfl) rfl (av := [.int (tv3 a b d)]) (rest := []) (m_Mo_pushType (kl K) g hI (up2 (up2 (up2 M 0 20 (nI (t + 2))) 0 20 (nI (t + 1))) 0 20 (nI (t))) (t := t) _ (by first | exact h20 | exact up2_s _ _ _ _) (by omega)) wd_671 wd_668 wd_670 ws_53 wd_6 hd_Mo_pushType (by omega) (by decide) rfl rfl (Nat.le_of_ble_eq_true rfl) d_Mo_typeOf_145 (fun r9 M9 hp9 => ?_)
      obtain ⟨rfl, rfl⟩ := hp9
      refine v_r0 ?_
      refine v_iinc h0 d_Mo_typeOf_148 (lv' := [(4, .int (pdI p)), (2, .int (nI 0)), (6, .int (tv3 a b d)), (5, .int (s p)), (3, .int (nI f)), (0, .ref (ga g 0)), (1, .int (nI c))]) 3 rfl (pd_inc p) (lt_kn hn (by decide)) rfl ?_
      refine v_goto h0 d_Mo_typeOf_151 rfl ?_
      refine v_sub [0, 4, 1, 5, 6] rfl ?_
      refine v_eq kk rfl rfl (by rw [h128, decide_eq_false (fun z => z h133), Bool.and_false]; rfl) rfl
    · skip
      refine v_iconst h0 d_Mo_typeOf_136 (v := nI 1) (by decide) ?_
      refine v_goto h0 d_Mo_typeOf_137 rfl ?_
      refine v_istore_n h0 d_Mo_typeOf_141 (lv' := [(2, .int (nI 1)), (6, .int (tv3 a b d)), (5, .int (s p)), (4, .int (nI p)), (3, .int (nI f)), (0, .ref (ga g 0)), (1, .int (nI c))]) (lt_kn hn (by decide)) rfl ?_
      refine v_aload_n h0 d_Mo_typeOf_142 5 rfl ?_
      refine v_iload h0 d_Mo_typeOf_143 1 rfl ?_
      refine v_callV h0 hC (sR_N0 g) 0 (show 0 < 22 by omega) (show enR g 0 _ = _ from rfl) rfl (av := [.int (tv3 a b d)]) (rest := []) (m_Mo_pushType (kl K) g hI (up2 (up2 (up2 M 0 20 (nI (t + 2))) 0 20 (nI (t + 1))) 0 20 (nI (t))) (t := t) _ (by first | exact h20 | exact up2_s _ _ _ _) (by omega)) wd_671 wd_668 wd_670 ws_53 wd_6 hd_Mo_pushType (by omega) (by decide) rfl rfl (Nat.le_of_ble_eq_true rfl) d_Mo_typeOf_145 (fun r9 M9 hp9 => ?_)
      obtain ⟨rfl, rfl⟩ := hp9
      refine v_r0 ?_
      refine v_iinc h0 d_Mo_typeOf_148 (lv' := [(4, .int (pdI p)), (2, .int (nI 1)), (6, .int (tv3 a b d)), (5, .int (s p)), (3, .int (nI f)), (0, .ref (ga g 0)), (1, .int (nI c))]) 3 rfl (pd_inc p) (lt_kn hn (by decide)) rfl ?_
      refine v_goto h0 d_Mo_typeOf_151 rfl ?_
      refine v_sub [0, 4, 1, 5, 6] rfl ?_
      refine v_eq kk rfl rfl (by rw [h128, decide_eq_true h133, Bool.and_self]; rfl) rfl
set_option maxHeartbeats 4000000 in
theorem tq_6 {K : Cf} {g : Gd} (hI : sI (sR g)) (h0 : C0 K c_Mo_typeOf) (hC : Cx (sR g) K gC_Mo 4) (hn : kn K = 7) {M : Me} {c n p f t : Nat} {gd : Bool} {s : Nat → Int32} (hc : c < 10) (hT : TR M c s n) (hp : p < n) (hf : f ≤ p) (hl : lbR M c p = 0) (hx : kd (s p) = 6) {a b d : Int32} (ha : M 16 (t + 2) = a) (hb : M 16 (t + 1) = b) (hd : M 16 (t) = d) (h20 : M 0 20 = nI (t + 3)) (ht20 : t ≤ 20) (kk : V K (wp (sR g)) (ptM (up2 (up2 (up2 M 0 20 (nI (t + 2))) 0 20 (nI (t + 1))) 0 20 (nI (t))) t (tv6 a b d)) 31 [(4, .int (pdI p)), (3, .int (nI f)), (2, .int (bI (gd && decide (¬ tv6 a b d = 0)))), (0, .ref (ga g 0)), (1, .int (nI c))] []) : V K (wp (sR g)) M 31 [(4, .int (pdI (p + 1))), (3, .int (nI f)), (2, .int (bI gd)), (0, .ref (ga g 0)), (1, .int (nI c))] [] := by
  have hn24 := hT.2.1
  refine v_eq (?_ : V K (wp (sR g)) M 31 [(4, .int (nI p)), (3, .int (nI f)), (2, .int (bI gd)), (0, .ref (ga g 0)), (1, .int (nI c))] []) rfl rfl (by rw [pd_s]) rfl
  refine v_iload h0 d_Mo_typeOf_31 0 rfl ?_
  refine v_iload_n h0 d_Mo_typeOf_33 1 rfl ?_
  refine n_icmp_lt h0 (by omega) (by omega) d_Mo_typeOf_34 rfl (fun h34 => absurd h34 (by omega)) (fun h34 => ?_)
  refine v_aload_n h0 d_Mo_typeOf_37 3 rfl ?_
  refine g_Mo_label_ h0 hC wd_454 d_Mo_typeOf_38 ?_
  refine v_bipush h0 d_Mo_typeOf_41 (v := nI 24) (by decide) ?_
  refine v_iload_n h0 d_Mo_typeOf_43 4 rfl ?_
  refine v_imul h0 d_Mo_typeOf_44 ?_
  refine v_int (nI (24 * c)) (pk_mul 24 c) ?_
  refine v_iload h0 d_Mo_typeOf_45 0 rfl ?_
  refine v_iadd h0 d_Mo_typeOf_47 ?_
  refine v_int (nI (24 * c + p)) (nI_add (24 * c) p) ?_
  refine a_Mo_label_ h0 hC (24 * c + p) (rfl) (by omega) d_Mo_typeOf_48 ?_
  refine v_int (0) (hl) ?_
  refine v_if_ne h0 d_Mo_typeOf_49 rfl (fun h49 => absurd h49 (fun z => z rfl)) (fun h49 => ?_)
  refine v_aload_n h0 d_Mo_typeOf_52 3 rfl ?_
  refine v_iload_n h0 d_Mo_typeOf_53 4 rfl ?_
  refine v_iload h0 d_Mo_typeOf_54 0 rfl ?_
  refine v_callV h0 hC (sR_N0 g) 0 (show 0 < 22 by omega) (show enR g 0 _ = _ from rfl) rfl (av := [.int (nI c), .int (nI p)]) (rest := []) (m_Mo_charAt (kl K) g hI M hc (by omega) hT) wd_564 wd_561 wd_563 ws_32 wd_6 hd_Mo_charAt (by omega) (by decide) rfl rfl (Nat.le_of_ble_eq_true rfl) d_Mo_typeOf_56 (fun r9 M9 hp9 => ?_)
  obtain ⟨rfl, rfl⟩ := hp9
  refine v_r1 ?_
  refine v_int (s p) (if_pos hp) ?_
  refine v_istore h0 d_Mo_typeOf_59 (lv' := [(5, .int (s p)), (4, .int (nI p)), (3, .int (nI f)), (2, .int (bI gd)), (0, .ref (ga g 0)), (1, .int (nI c))]) (lt_kn hn (by decide)) rfl ?_
  refine v_iload h0 d_Mo_typeOf_61 0 rfl ?_
  refine v_callS h0 hC (sR_N0 g) (av := [.int (s p)]) (rest := []) (m_Mo_isDigit (kl K) g hI _ _) wd_574 wd_572 wd_573 wd_6 hd_Mo_isDigit (by omega) (by decide) rfl rfl (Nat.le_of_ble_eq_true rfl) d_Mo_typeOf_63 (fun r9 M9 hp9 => ?_)
  obtain ⟨rfl, rfl⟩ := hp9
  refine v_r1 ?_
  refine b_if_ne h0 d_Mo_typeOf_66 rfl (fun h66 => absurd h66 (by unfold kdB; rw [hx]; decide)) (fun h66 => ?_)
  refine v_iload h0 d_Mo_typeOf_69 0 rfl ?_
  refine v_callS h0 hC (sR_N0 g) (av := [.int (s p)]) (rest := []) (m_Mo_isLocal (kl K) g hI _ _) wd_567 wd_565 wd_566 wd_6 hd_Mo_isLocal (by omega) (by decide) rfl rfl (Nat.le_of_ble_eq_true rfl) d_Mo_typeOf_71 (fun r9 M9 hp9 => ?_)
  obtain ⟨rfl, rfl⟩ := hp9
  refine v_r1 ?_
  refine b_if_eq h0 d_Mo_typeOf_74 rfl (fun h74 => ?_) (fun h74 => absurd h74 (by unfold kdB; rw [hx]; decide))
  refine v_iload h0 d_Mo_typeOf_81 0 rfl ?_
  refine v_callS h0 hC (sR_N0 g) (av := [.int (s p)]) (rest := []) (m_Mo_isName (kl K) g hI _ _) wd_581 wd_579 wd_580 wd_6 hd_Mo_isName (by omega) (by decide) rfl rfl (Nat.le_of_ble_eq_true rfl) d_Mo_typeOf_83 (fun r9 M9 hp9 => ?_)
  obtain ⟨rfl, rfl⟩ := hp9
  refine v_r1 ?_
  refine b_if_eq h0 d_Mo_typeOf_86 rfl (fun h86 => ?_) (fun h86 => absurd h86 (by unfold kdB; rw [hx]; decide))
  refine v_aload_n h0 d_Mo_typeOf_118 4 rfl ?_
  refine v_iload_n h0 d_Mo_typeOf_119 5 rfl ?_
  refine v_iload h0 d_Mo_typeOf_120 1 rfl ?_
  refine v_callV h0 hC (sR_N0 g) 0 (show 0 < 22 by omega) (show enR g 0 _ = _ from rfl) rfl (av := [.int (nI c), .int (nI p)]) (rest := []) (m_Mo_typeOver_6 (kl K) g hI M hc hp hT hx ha hb hd h20 ht20) wd_659 wd_656 wd_658 ws_50 wd_6 hd_Mo_typeOver (by omega) (by decide) rfl rfl (Nat.le_of_ble_eq_true rfl) d_Mo_typeOf_122 (fun r9 M9 hp9 => ?_)
  obtain ⟨rfl, rfl⟩ := hp9
  refine v_r1 ?_
  refine v_istore h0 d_Mo_typeOf_125 (lv' := [(6, .int (tv6 a b d)), (5, .int (s p)), (4, .int (nI p)), (3, .int (nI f)), (2, .int (bI gd)), (0, .ref (ga g 0)), (1, .int (nI c))]) (lt_kn hn (by decide)) rfl ?_
  refine v_iload_n h0 d_Mo_typeOf_127 4 rfl ?_
  refine b_if_eq h0 d_Mo_typeOf_128 rfl (fun h128 => ?_) (fun h128 => ?_)
  · skip
    refine v_iconst h0 d_Mo_typeOf_140 (v := nI 0) (by decide) ?_
    refine v_istore_n h0 d_Mo_typeOf_141 (lv' := [(2, .int (nI 0)), (6, .int (tv6 a b d)), (5, .int (s p)), (4, .int (nI p)), (3, .int (nI f)), (0, .ref (ga g 0)), (1, .int (nI c))]) (lt_kn hn (by decide)) rfl ?_
    refine v_aload_n h0 d_Mo_typeOf_142 5 rfl ?_
    refine v_iload h0 d_Mo_typeOf_143 1 rfl ?_
    refine v_callV h0 hC (sR_N0 g) 0 (show 0 < 22 by omega) (show enR g 0 _ = _ from rfl) rfl (av := [.int (tv6 a b d)]) (rest := []) (m_Mo_pushType (kl K) g hI (up2 (up2 (up2 M 0 20 (nI (t + 2))) 0 20 (nI (t + 1))) 0 20 (nI (t))) (t := t) _ (by first | exact h20 | exact up2_s _ _ _ _) (by omega)) wd_671 wd_668 wd_670 ws_53 wd_6 hd_Mo_pushType (by omega) (by decide) rfl rfl (Nat.le_of_ble_eq_true rfl) d_Mo_typeOf_145 (fun r9 M9 hp9 => ?_)
    obtain ⟨rfl, rfl⟩ := hp9
    refine v_r0 ?_
    refine v_iinc h0 d_Mo_typeOf_148 (lv' := [(4, .int (pdI p)), (2, .int (nI 0)), (6, .int (tv6 a b d)), (5, .int (s p)), (3, .int (nI f)), (0, .ref (ga g 0)), (1, .int (nI c))]) 3 rfl (pd_inc p) (lt_kn hn (by decide)) rfl ?_
    refine v_goto h0 d_Mo_typeOf_151 rfl ?_
    refine v_sub [0, 4, 1, 5, 6] rfl ?_
    refine v_eq kk rfl rfl (by rw [h128, Bool.false_and]; rfl) rfl
  · skip
    refine v_iload h0 d_Mo_typeOf_131 0 rfl ?_
    refine v_if_eq h0 d_Mo_typeOf_133 rfl (fun h133 => ?_) (fun h133 => ?_)
    · skip
      refine v_iconst h0 d_Mo_typeOf_140 (v := nI 0) (by decide) ?_
      refine v_istore_n h0 d_Mo_typeOf_141 (lv' := [(2, .int (nI 0)), (6, .int (tv6 a b d)), (5, .int (s p)), (4, .int (nI p)), (3, .int (nI f)), (0, .ref (ga g 0)), (1, .int (nI c))]) (lt_kn hn (by decide)) rfl ?_
      refine v_aload_n h0 d_Mo_typeOf_142 5 rfl ?_
      refine v_iload h0 d_Mo_typeOf_143 1 rfl ?_
      refine v_callV h0 hC (sR_N0 g) 0 (show 0 < 22 by omega) (show enR g 0 _ = _ from rfl) rfl (av := [.int (tv6 a b d)]) (rest := []) (m_Mo_pushType (kl K) g hI (up2 (up2 (up2 M 0 20 (nI (t + 2))) 0 20 (nI (t + 1))) 0 20 (nI (t))) (t := t) _ (by first | exact h20 | exact up2_s _ _ _ _) (by omega)) wd_671 wd_668 wd_670 ws_53 wd_6 hd_Mo_pushType (by omega) (by decide) rfl rfl (Nat.le_of_ble_eq_true rfl) d_Mo_typeOf_145 (fun r9 M9 hp9 => ?_)
      obtain ⟨rfl, rfl⟩ := hp9
      refine v_r0 ?_
      refine v_iinc h0 d_Mo_typeOf_148 (lv' := [(4, .int (pdI p)), (2, .int (nI 0)), (6, .int (tv6 a b d)), (5, .int (s p)), (3, .int (nI f)), (0, .ref (ga g 0)), (1, .int (nI c))]) 3 rfl (pd_inc p) (lt_kn hn (by decide)) rfl ?_
      refine v_goto h0 d_Mo_typeOf_151 rfl ?_
      refine v_sub [0, 4, 1, 5, 6] rfl ?_
      refine v_eq kk rfl rfl (by rw [h128, decide_eq_false (fun z => z h133), Bool.and_false]; rfl) rfl
    · skip
      refine v_iconst h0 d_Mo_typeOf_136 (v := nI 1) (by decide) ?_
      refine v_goto h0 d_Mo_typeOf_137 rfl ?_
      refine v_istore_n h0 d_Mo_typeOf_141 (lv' := [(2, .int (nI 1)), (6, .int (tv6 a b d)), (5, .int (s p)), (4, .int (nI p)), (3, .int (nI f)), (0, .ref (ga g 0)), (1, .int (nI c))]) (lt_kn hn (by decide)) rfl ?_
      refine v_aload_n h0 d_Mo_typeOf_142 5 rfl ?_
      refine v_iload h0 d_Mo_typeOf_143 1 rfl ?_
      refine v_callV h0 hC (sR_N0 g) 0 (show 0 < 22 by omega) (show enR g 0 _ = _ from rfl) rfl (av := [.int (tv6 a b d)]) (rest := []) (m_Mo_pushType (kl K) g hI (up2 (up2 (up2 M 0 20 (nI (t + 2))) 0 20 (nI (t + 1))) 0 20 (nI (t))) (t := t) _ (by first | exact h20 | exact up2_s _ _ _ _) (by omega)) wd_671 wd_668 wd_670 ws_53 wd_6 hd_Mo_pushType (by omega) (by decide) rfl rfl (Nat.le_of_ble_eq_true rfl) d_Mo_typeOf_145 (fun r9 M9 hp9 => ?_)
      obtain ⟨rfl, rfl⟩ := hp9
      refine v_r0 ?_
      refine v_iinc h0 d_Mo_typeOf_148 (lv' := [(4, .int (pdI p)), (2, .int (nI 1)), (6, .int (tv6 a b d)), (5, .int (s p)), (3, .int (nI f)), (0, .ref (ga g 0)), (1, .int (nI c))]) 3 rfl (pd_inc p) (lt_kn hn (by decide)) rfl ?_
      refine v_goto h0 d_Mo_typeOf_151 rfl ?_
      refine v_sub [0, 4, 1, 5, 6] rfl ?_
      refine v_eq kk rfl rfl (by rw [h128, decide_eq_true h133, Bool.and_self]; rfl) rfl
def TQ (M M' : Me) (t : Nat) (v : Int32) : Prop := (∀ i, i ≠ 0 → i ≠ 16 → M' i = M i) ∧ (∀ k, k ≠ 20 → M' 0 k = M 0 k) ∧ M' 0 20 = nI (t + 1) ∧ (∀ i, i < t → M' 16 i = M 16 i) ∧ M' 16 t = v
def TF (M M' : Me) (t : Nat) : Prop := (∀ i, i ≠ 0 → i ≠ 16 → M' i = M i) ∧ (∀ k, k ≠ 20 → M' 0 k = M 0 k) ∧ (∀ i, i < t → M' 16 i = M 16 i)
theorem TF.refl (M : Me) (t : Nat) : TF M M t := ⟨fun _ _ _ => rfl, fun _ _ => rfl, fun _ _ => rfl⟩
theorem TF.trans {M M1 M2 : Me} {t t' : Nat} (h : TF M M1 t) (k : TF M1 M2 t') (h1 : t ≤ t') : TF M M2 t := ⟨fun i a b => (k.1 i a b).trans (h.1 i a b), fun i a => (k.2.1 i a).trans (h.2.1 i a), fun i a => (k.2.2 i (by omega)).trans (h.2.2 i a)⟩
theorem TQ.tf {M M1 : Me} {t : Nat} {v : Int32} (h : TQ M M1 t v) : TF M M1 t := ⟨h.1, h.2.1, h.2.2.2.1⟩
theorem TF.u (M : Me) (t : Nat) (x : Int32) : TF M (up2 M 0 20 x) t := ⟨fun i a _ => up2_q _ _ a, fun k a => up2_n _ _ (by omega), fun i a => up2_n _ _ (by omega)⟩
theorem TF.pt {M M1 : Me} {t : Nat} (h : TF M M1 t) (v : Int32) : TQ M (ptM M1 t v) t v := ⟨fun i a b => by unfold ptM; rw [up2_q _ _ a, up2_q _ _ b]; exact h.1 i a b, fun k a => by unfold ptM; rw [up2_n _ _ (by omega), up2_n _ _ (by omega)]; exact h.2.1 k a, up2_s _ _ _ _, fun i a => by unfold ptM; rw [up2_n _ _ (by omega), up2_n _ _ (by omega)]; exact h.2.2 i a, by unfold ptM; rw [up2_n _ _ (by omega), up2_s]⟩
theorem TR.tf {M M1 : Me} {c t n : Nat} {s : Nat → Int32} (h : TF M M1 t) (hT : TR M c s n) : TR M1 c s n := ⟨by rw [h.1 3 (by omega) (by omega)]; exact hT.1, hT.2.1, fun k hk => by rw [h.1 2 (by omega) (by omega)]; exact hT.2.2.1 k hk, hT.2.2.2⟩
theorem TxR.tf {M M1 β : Me} {t : Nat} (h : TF M M1 t) (hT : TxR M β) : TxR M1 β := hT.rows (fun i hi => h.1 i (by omega) (by omega))
theorem RsR.tf {M M1 β : Me} {t : Nat} (h : TF M M1 t) (hT : RsR M β) : RsR M1 β := hT.rows (fun i hi hj => h.1 i (by omega) (by omega))
def TyE (K : Cf) (g : Gd) (c f : Nat) (β : Me) (s : Nat → Int32) (n d : Nat) : Prop := ∀ (M : Me) (b : Nat → Bool) (k t : Nat) (gd : Bool), TxR M β → RsR M β → TR M c s n → f ≤ k → OK s n d b k = true → LO s (lbR M c) d k → (∀ j, j < 10 → bt (NM s d k) j = true → ¬ dfL β j 10 < 0) → M 0 20 = nI t → t + 2 * d ≤ 20 →
  (∀ M', TQ M M' t (TY s (tnI β c) (fjB β c) d k) → V K (wp (sR g)) M' 31 [(4, .int (pdI k)), (3, .int (nI f)), (2, .int (bI (gd && decide (¬ TY s (tnI β c) (fjB β c) d k = 0)))), (0, .ref (ga g 0)), (1, .int (nI c))] []) → V K (wp (sR g)) M 31 [(4, .int (pdI (EN s d k))), (3, .int (nI f)), (2, .int (bI gd)), (0, .ref (ga g 0)), (1, .int (nI c))] []
theorem gd_2 {gd a b v : Bool} (h : v = true → a = true ∧ b = true) : (((gd && b) && a) && v) = (gd && v) := by
  cases v
  · simp
  · obtain ⟨h1, h2⟩ := h rfl; rw [h1, h2]; simp
theorem gd_1 {gd a v : Bool} (h : v = true → a = true) : ((gd && a) && v) = (gd && v) := by
  cases v
  · simp
  · rw [h rfl]; simp
theorem gd_3 {gd a b d v : Bool} (h : v = true → a = true ∧ b = true ∧ d = true) : ((((gd && d) && b) && a) && v) = (gd && v) := by
  cases v
  · simp
  · obtain ⟨h1, h2, h3⟩ := h rfl; rw [h1, h2, h3]; simp
theorem tv1_n {a : Int32} (h : decide (¬ tv1 a = 0) = true) : decide (¬ a = 0) = true := by
  have h := of_decide_eq_true h; apply decide_eq_true; unfold tv1 at h; split at h
  · rename_i z; rw [z]; decide
  · exact absurd rfl h
theorem tv2_n {x a b : Int32} (h : decide (¬ tv2 x a b = 0) = true) : decide (¬ a = 0) = true ∧ decide (¬ b = 0) = true := by
  have h := of_decide_eq_true h; unfold tv2 at h
  split at h
  · split at h
    · rename_i z; rw [z.1, z.2]; decide
    · exact absurd rfl h
  · split at h
    · rename_i z; rw [z.1, z.2]; decide
    · exact absurd rfl h
theorem tv3_n {a b d : Int32} (h : decide (¬ tv3 a b d = 0) = true) : decide (¬ a = 0) = true ∧ decide (¬ b = 0) = true ∧ decide (¬ d = 0) = true := by
  have h := of_decide_eq_true h; unfold tv3 at h
  split at h
  · rename_i z; rw [← z.2, z.1]; exact ⟨by decide, decide_eq_true h, decide_eq_true h⟩
  · exact absurd rfl h
theorem tv4_n {a b : Int32} (h : decide (¬ tv4 a b = 0) = true) : decide (¬ a = 0) = true ∧ decide (¬ b = 0) = true := by
  have h := of_decide_eq_true h; unfold tv4 at h
  split at h
  · rename_i z; rw [z]; exact ⟨by decide, decide_eq_true h⟩
  · exact absurd rfl h
theorem tv5_n {a : Int32} {f : Bool} (h : decide (¬ tv5 a f = 0) = true) : decide (¬ a = 0) = true := by
  have h := of_decide_eq_true h; apply decide_eq_true; unfold tv5 at h; split at h
  · rename_i z; rw [z.1]; decide
  · exact absurd rfl h
theorem tv6_n {a b d : Int32} (h : decide (¬ tv6 a b d = 0) = true) : decide (¬ a = 0) = true ∧ decide (¬ b = 0) = true ∧ decide (¬ d = 0) = true := by
  have h := of_decide_eq_true h; unfold tv6 at h
  split at h
  · rename_i z; rw [z.1, z.2.1, z.2.2]; decide
  · exact absurd rfl h
section TX9
variable {K : Cf} {g : Gd} {c n f : Nat} {s : Nat → Int32} {β : Me}
set_option maxHeartbeats 4000000 in
theorem TyE_all (hI : sI (sR g)) (h0 : C0 K c_Mo_typeOf) (hC : Cx (sR g) K gC_Mo 4) (hn : kn K = 7) (hc : c < 10) : ∀ d, TyE K g c f β s n d := by
  intro d
  induction d with
  | zero => intro M b k t gd hTx hR9 hT hf h; simp [OK] at h
  | succ d ih =>
    intro M b k t gd hTx hR9 hT hf h hl hU h20 ht20 kk
    have hk := OK_k h
    have hn24 := hT.2.1
    have hE := OK_ends s n (d + 1) b k h
    rcases OK_kd h with q | q | q | q | q | q | q | q | q
    · rw [LO_2 s (lbR M c) d k q] at hl
      rw [TY_2 s _ _ d k q] at kk
      rw [OK_2 s n d b k q] at h
      simp only [Bool.and_eq_true, decide_eq_true_eq] at h
      rw [EN_2 s d k q] at hE ⊢
      rw [NM_2 s d k q] at hU
      have e0 := OK_ends s n _ _ _ h.2.1
      have e1 := OK_ends s n _ _ _ h.2.2
      refine ih M _ (EN s d (k + 1)) t gd hTx hR9 hT (by omega) h.2.2 hl.2.2 (fun j w1 w2 => hU j w1 (or_r w2)) h20 (by omega) (fun N1 q1 => ?_)
      have a1 := q1.tf
      refine ih N1 _ (k + 1) (t + 1) (gd && decide (¬ TY s (tnI β c) (fjB β c) d (EN s d (k + 1)) = 0)) (hTx.tf a1) (hR9.tf a1) (hT.tf a1) (by omega) h.2.1 (by unfold lbR; rw [a1.1 6 (by omega) (by omega)]; exact hl.2.1) (fun j w1 w2 => hU j w1 (or_l w2)) q1.2.2.1 (by omega) (fun N0 q0 => ?_)
      have a0 := a1.trans q0.tf (by omega)
      refine tq_2 hI h0 hC hn hc (hT.tf a0) hk hf (by unfold lbR; rw [a0.1 6 (by omega) (by omega)]; exact hl.1) q (t := t) q0.2.2.2.2 ((q0.2.2.2.1 _ (by omega)).trans q1.2.2.2.2) q0.2.2.1 (by omega) ?_
      refine v_eq (kk _ (TF.pt (a0.trans ((TF.u _ t _).trans (TF.u _ t _) (Nat.le_refl _)) (Nat.le_refl _)) (tv2 (s k) (TY s (tnI β c) (fjB β c) d (k + 1)) (TY s (tnI β c) (fjB β c) d (EN s d (k + 1)))))) rfl rfl (by rw [gd_2 tv2_n]; rfl) rfl
    · rw [LO_1 s (lbR M c) d k q] at hl
      rw [TY_1 s _ _ d k q] at kk
      rw [OK_1 s n d b k q] at h
      simp only [Bool.and_eq_true, decide_eq_true_eq] at h
      rw [EN_1 s d k q] at hE ⊢
      rw [NM_1 s d k q] at hU
      have e0 := OK_ends s n _ _ _ h.2
      refine ih M _ (k + 1) t gd hTx hR9 hT (by omega) h.2 hl.2 (fun j w1 w2 => hU j w1 (w2)) h20 (by omega) (fun N0 q0 => ?_)
      have a0 := q0.tf
      refine tq_1 hI h0 hC hn hc (hT.tf a0) hk hf (by unfold lbR; rw [a0.1 6 (by omega) (by omega)]; exact hl.1) q (t := t) q0.2.2.2.2 q0.2.2.1 (by omega) ?_
      refine v_eq (kk _ (TF.pt (a0.trans (TF.u _ t _) (Nat.le_refl _)) (tv1 (TY s (tnI β c) (fjB β c) d (k + 1))))) rfl rfl (by rw [gd_1 tv1_n]; rfl) rfl
    · rw [LO_3 s (lbR M c) d k q] at hl
      rw [TY_3 s _ _ d k q] at kk
      rw [OK_3 s n d b k q] at h
      simp only [Bool.and_eq_true, decide_eq_true_eq] at h
      rw [EN_3 s d k q] at hE ⊢
      rw [NM_3 s d k q] at hU
      have e0 := OK_ends s n _ _ _ h.2.1
      have e1 := OK_ends s n _ _ _ h.2.2.1
      have e2 := OK_ends s n _ _ _ h.2.2.2
      refine ih M _ (EN s d (EN s d (k + 1))) t gd hTx hR9 hT (by omega) h.2.2.2 hl.2.2.2 (fun j w1 w2 => hU j w1 (or_r (or_r w2))) h20 (by omega) (fun N2 q2 => ?_)
      have a2 := q2.tf
      refine ih N2 _ (EN s d (k + 1)) (t + 1) (gd && decide (¬ TY s (tnI β c) (fjB β c) d (EN s d (EN s d (k + 1))) = 0)) (hTx.tf a2) (hR9.tf a2) (hT.tf a2) (by omega) h.2.2.1 (by unfold lbR; rw [a2.1 6 (by omega) (by omega)]; exact hl.2.2.1) (fun j w1 w2 => hU j w1 (or_r (or_l w2))) q2.2.2.1 (by omega) (fun N1 q1 => ?_)
      have a1 := a2.trans q1.tf (by omega)
      refine ih N1 _ (k + 1) (t + 2) ((gd && decide (¬ TY s (tnI β c) (fjB β c) d (EN s d (EN s d (k + 1))) = 0)) && decide (¬ TY s (tnI β c) (fjB β c) d (EN s d (k + 1)) = 0)) (hTx.tf a1) (hR9.tf a1) (hT.tf a1) (by omega) h.2.1 (by unfold lbR; rw [a1.1 6 (by omega) (by omega)]; exact hl.2.1) (fun j w1 w2 => hU j w1 (or_l w2)) q1.2.2.1 (by omega) (fun N0 q0 => ?_)
      have a0 := a1.trans q0.tf (by omega)
      refine tq_3 hI h0 hC hn hc (hT.tf a0) hk hf (by unfold lbR; rw [a0.1 6 (by omega) (by omega)]; exact hl.1) q (t := t) q0.2.2.2.2 ((q0.2.2.2.1 _ (by omega)).trans q1.2.2.2.2) ((q0.2.2.2.1 _ (by omega)).trans ((q1.2.2.2.1 _ (by omega)).trans q2.2.2.2.2)) q0.2.2.1 (by omega) ?_
      refine v_eq (kk _ (TF.pt (a0.trans (((TF.u _ t _).trans (TF.u _ t _) (Nat.le_refl _)).trans (TF.u _ t _) (Nat.le_refl _)) (Nat.le_refl _)) (tv3 (TY s (tnI β c) (fjB β c) d (k + 1)) (TY s (tnI β c) (fjB β c) d (EN s d (k + 1))) (TY s (tnI β c) (fjB β c) d (EN s d (EN s d (k + 1))))))) rfl rfl (by rw [gd_3 tv3_n]; rfl) rfl
    · rw [LO_4 s (lbR M c) d k q] at hl
      rw [TY_4 s _ _ d k q] at kk
      rw [OK_4 s n d b k q] at h
      simp only [Bool.and_eq_true, decide_eq_true_eq] at h
      rw [EN_4 s d k q] at hE ⊢
      rw [NM_4 s d k q] at hU
      have e0 := OK_ends s n _ _ _ h.2.2.1
      have e1 := OK_ends s n _ _ _ h.2.2.2
      refine ih M _ (EN s d (k + 2)) t gd hTx hR9 hT (by omega) h.2.2.2 hl.2.2.2 (fun j w1 w2 => hU j w1 (or_r w2)) h20 (by omega) (fun N1 q1 => ?_)
      have a1 := q1.tf
      refine ih N1 _ (k + 2) (t + 1) (gd && decide (¬ TY s (tnI β c) (fjB β c) d (EN s d (k + 2)) = 0)) (hTx.tf a1) (hR9.tf a1) (hT.tf a1) (by omega) h.2.2.1 (by unfold lbR; rw [a1.1 6 (by omega) (by omega)]; exact hl.2.2.1) (fun j w1 w2 => hU j w1 (or_l w2)) q1.2.2.1 (by omega) (fun N0 q0 => ?_)
      have a0 := a1.trans q0.tf (by omega)
      refine tq_lab hI h0 hC hn hc (hT.tf a0) (p := k + 1) (by omega) (by omega) (by unfold lbR; rw [a0.1 6 (by omega) (by omega)]; exact hl.2.1) ?_
      refine tq_4 hI h0 hC hn hc (hT.tf a0) hk hf (by unfold lbR; rw [a0.1 6 (by omega) (by omega)]; exact hl.1) q (t := t) q0.2.2.2.2 ((q0.2.2.2.1 _ (by omega)).trans q1.2.2.2.2) q0.2.2.1 (by omega) ?_
      refine v_eq (kk _ (TF.pt (a0.trans ((TF.u _ t _).trans (TF.u _ t _) (Nat.le_refl _)) (Nat.le_refl _)) (tv4 (TY s (tnI β c) (fjB β c) d (k + 2)) (TY s (tnI β c) (fjB β c) d (EN s d (k + 2)))))) rfl rfl (by rw [gd_2 tv4_n]; rfl) rfl
    · rw [LO_5 s (lbR M c) d k q] at hl
      rw [TY_5 s _ _ d k q] at kk
      rw [OK_5 s n d b k q] at h
      simp only [Bool.and_eq_true, decide_eq_true_eq] at h
      rw [EN_5 s d k q] at hE ⊢
      rw [NM_5 s d k q] at hU
      have e0 := OK_ends s n _ _ _ h.2.2
      refine ih M _ (k + 2) t gd hTx hR9 hT (by omega) h.2.2 hl.2.2 (fun j w1 w2 => hU j w1 (or_r w2)) h20 (by omega) (fun N0 q0 => ?_)
      have a0 := q0.tf
      refine tq_lab hI h0 hC hn hc (hT.tf a0) (p := k + 1) (by omega) (by omega) (by unfold lbR; rw [a0.1 6 (by omega) (by omega)]; exact hl.2.1) ?_
      refine tq_5 hI h0 hC hn hc (hT.tf a0) hk hf (by unfold lbR; rw [a0.1 6 (by omega) (by omega)]; exact hl.1) q (t := t) q0.2.2.2.2 q0.2.2.1 (by omega) (hTx.tf a0) (hR9.tf a0) h.2.1.1 h.2.1.2 (hU _ (nm_of h.2.1.2).1 (or_l (by have := (nm_of h.2.1.2).1; rw [b_bit (by omega) (by omega)]; simp))) ?_
      refine v_eq (kk _ (TF.pt (a0.trans (TF.u _ t _) (Nat.le_refl _)) (tv5 (TY s (tnI β c) (fjB β c) d (k + 2)) (fjB β c (nmI (s (k + 1))))))) rfl rfl (by rw [gd_1 tv5_n]; rfl) rfl
    · rw [LO_6 s (lbR M c) d k q] at hl
      rw [TY_6 s _ _ d k q] at kk
      rw [OK_6 s n d b k q] at h
      simp only [Bool.and_eq_true, decide_eq_true_eq] at h
      rw [EN_6 s d k q] at hE ⊢
      rw [NM_6 s d k q] at hU
      have e0 := OK_ends s n _ _ _ h.2.1
      have e1 := OK_ends s n _ _ _ h.2.2.2.1
      have e2 := OK_ends s n _ _ _ h.2.2.2.2.2
      refine ih M _ (EN s d (EN s d (k + 1) + 1) + 1) t gd hTx hR9 hT (by omega) h.2.2.2.2.2 hl.2.2.2.2.2 (fun j w1 w2 => hU j w1 (or_r (or_r w2))) h20 (by omega) (fun N2 q2 => ?_)
      have a2 := q2.tf
      refine tq_lab hI h0 hC hn hc (hT.tf a2) (p := EN s d (EN s d (k + 1) + 1)) (by omega) (by omega) (by unfold lbR; rw [a2.1 6 (by omega) (by omega)]; exact hl.2.2.2.2.1) ?_
      refine ih N2 _ (EN s d (k + 1) + 1) (t + 1) (gd && decide (¬ TY s (tnI β c) (fjB β c) d (EN s d (EN s d (k + 1) + 1) + 1) = 0)) (hTx.tf a2) (hR9.tf a2) (hT.tf a2) (by omega) h.2.2.2.1 (by unfold lbR; rw [a2.1 6 (by omega) (by omega)]; exact hl.2.2.2.1) (fun j w1 w2 => hU j w1 (or_r (or_l w2))) q2.2.2.1 (by omega) (fun N1 q1 => ?_)
      have a1 := a2.trans q1.tf (by omega)
      refine tq_lab hI h0 hC hn hc (hT.tf a1) (p := EN s d (k + 1)) (by omega) (by omega) (by unfold lbR; rw [a1.1 6 (by omega) (by omega)]; exact hl.2.2.1) ?_
      refine ih N1 _ (k + 1) (t + 2) ((gd && decide (¬ TY s (tnI β c) (fjB β c) d (EN s d (EN s d (k + 1) + 1) + 1) = 0)) && decide (¬ TY s (tnI β c) (fjB β c) d (EN s d (k + 1) + 1) = 0)) (hTx.tf a1) (hR9.tf a1) (hT.tf a1) (by omega) h.2.1 (by unfold lbR; rw [a1.1 6 (by omega) (by omega)]; exact hl.2.1) (fun j w1 w2 => hU j w1 (or_l w2)) q1.2.2.1 (by omega) (fun N0 q0 => ?_)
      have a0 := a1.trans q0.tf (by omega)
      refine tq_6 hI h0 hC hn hc (hT.tf a0) hk hf (by unfold lbR; rw [a0.1 6 (by omega) (by omega)]; exact hl.1) q (t := t) q0.2.2.2.2 ((q0.2.2.2.1 _ (by omega)).trans q1.2.2.2.2) ((q0.2.2.2.1 _ (by omega)).trans ((q1.2.2.2.1 _ (by omega)).trans q2.2.2.2.2)) q0.2.2.1 (by omega) ?_
      refine v_eq (kk _ (TF.pt (a0.trans (((TF.u _ t _).trans (TF.u _ t _) (Nat.le_refl _)).trans (TF.u _ t _) (Nat.le_refl _)) (Nat.le_refl _)) (tv6 (TY s (tnI β c) (fjB β c) d (k + 1)) (TY s (tnI β c) (fjB β c) d (EN s d (k + 1) + 1)) (TY s (tnI β c) (fjB β c) d (EN s d (EN s d (k + 1) + 1) + 1))))) rfl rfl (by rw [gd_3 tv6_n]; rfl) rfl
    · rw [LO_7 s (lbR M c) d k q] at hl
      rw [TY_7 s _ _ d k q] at kk
      rw [EN_7 s d k q] at hE ⊢
      refine tq_7 hI h0 hC hn hc hT hk hf hl.1 q h20 (by omega) ?_
      exact kk _ ((TF.refl M t).pt _)
    · rw [LO_8 s (lbR M c) d k q] at hl
      rw [TY_8 s _ _ d k q] at kk
      rw [EN_8 s d k q] at hE ⊢
      refine tq_8 hI h0 hC hn hc hT hk hf hl.1 q hTx hR9 (hU _ (nm_of q).1 (by have := (nm_of q).1; rw [NM_8 s d k q, b_bit (by omega) (by omega)]; simp)) h20 (by omega) ?_
      exact kk _ ((TF.refl M t).pt _)
    · rw [LO_9 s (lbR M c) d k q] at hl
      rw [TY_9 s _ _ d k q] at kk
      rw [EN_9 s d k q] at hE ⊢
      refine tq_9 hI h0 hC hn hc hT hk hf hl.1 q h20 (by omega) ?_
      exact kk _ ((TF.refl M t).pt _)
end TX9
def TyPr (M : Me) (v : Int32) (r : Option Value) (M' : Me) : Prop := r = some (.int v) ∧ (∀ i, i ≠ 0 → i ≠ 16 → M' i = M i) ∧ ∀ k, k ≠ 20 → M' 0 k = M 0 k
theorem us_hU {β : Me} {c : Nat} (hc : c < 10) (hf : ftI β c = 0) : ∀ j, j < 10 → bt (NM (β (20 + c)) 6 (stN β c)) j = true → ¬ dfL β j 10 < 0 := fun j hj hu => (us_def hc hf hj (by unfold usI; rw [if_pos (ft_0 hf).1]; exact hu)).2.2.1
set_option maxHeartbeats 4000000 in
theorem m_Mo_typeOf (l : Launch) (g : Gd) (hI : sI (sR g)) (M : Me) {β : Me} {c : Nat} (hc : c < 10) (hTx : TxR M β) (hR9 : RsR M β) (hft : ftI β c = 0) (hlen : ∃ n, 0 < n ∧ n ≤ 24 ∧ β 3 c = nI n) (hlo : LO (β (20 + c)) (lbR M c) 6 (stN β c)) : CR l g y_Mo_typeOf c_Mo_typeOf 7 (some .int) 4 [.ref (ga g 0), .int (nI c)] M (TyPr M (tyI β c)) := by
  refine Ct.of hI (sR_N0 g) rfl (Nat.le_of_ble_eq_true rfl) (fun K h0 hC hR hkl hn => ?_)
  have hC : Cx (sR g) K gC_Mo _ := hC
  show V K (wp (sR g)) M 0 [(0, .ref (ga g 0)), (1, .int (nI c))] []
  have hw := (ft_0 hft).1
  obtain ⟨L, hL0, hL24, hL3⟩ := hlen
  have hTR : TR M c (β (20 + c)) L := hTx.tr hc hL24 hL3
  have hLn : lenN β c = L := by unfold lenN; rw [hL3]; exact nI_clamp (by omega)
  obtain ⟨hok, hen⟩ := wl_ok hw
  rw [hLn] at hok hen
  have hU := us_hU hc hft
  have hFin : ∀ (M1 : Me) (f : Nat), f ≤ 2 → TQ (up2 M 0 20 (nI 0)) M1 0 (tyI β c) → V K (wp (sR g)) M1 31 [(4, .int (pdI f)), (3, .int (nI f)), (2, .int (bI (true && decide (¬ tyI β c = 0)))), (0, .ref (ga g 0)), (1, .int (nI c))] [] := by
    intro M1 f hf q1
    refine v_iload h0 d_Mo_typeOf_31 0 rfl ?_
    refine v_iload_n h0 d_Mo_typeOf_33 1 rfl ?_
    refine v_icmp_lt h0 d_Mo_typeOf_34 rfl (fun h34 => ?_) (fun h34 => absurd h34 (fun z => z (pd_lt (by omega))))
    refine v_iload_n h0 d_Mo_typeOf_154 2 rfl ?_
    refine b_if_eq h0 d_Mo_typeOf_155 rfl (fun h155 => ?_) (fun h155 => ?_)
    · skip
      refine v_iconst h0 d_Mo_typeOf_167 (v := nI 0) (by decide) ?_
      exact v_iret h0 hC hR d_Mo_typeOf_168 (⟨by have z := (Bool.true_and _).symm.trans h155; rw [show tyI β c = 0 from Classical.byContradiction (of_decide_eq_false z)]; rfl, fun i a b => (q1.1 i a b).trans (up2_q _ _ a), fun k a => (q1.2.1 k a).trans (up2_n _ _ (by omega))⟩)
    · skip
      refine v_aload_n h0 d_Mo_typeOf_158 3 rfl ?_
      refine g_Mo_types_ h0 hC wd_467 d_Mo_typeOf_159 ?_
      refine v_iconst h0 d_Mo_typeOf_162 (v := nI 0) (by decide) ?_
      refine a_Mo_types_ h0 hC 0 (rfl) (by omega) d_Mo_typeOf_163 ?_
      refine v_int (tyI β c) (q1.2.2.2.2) ?_
      refine v_goto h0 d_Mo_typeOf_164 rfl ?_
      exact v_iret h0 hC hR d_Mo_typeOf_168 (⟨rfl, fun i a b => (q1.1 i a b).trans (up2_q _ _ a), fun k a => (q1.2.1 k a).trans (up2_n _ _ (by omega))⟩)
  refine v_iconst h0 d_Mo_typeOf_0 (v := nI 1) (by decide) ?_
  refine v_istore_n h0 d_Mo_typeOf_1 (lv' := [(2, .int (nI 1)), (0, .ref (ga g 0)), (1, .int (nI c))]) (lt_kn hn (by decide)) rfl ?_
  refine v_aload_n h0 d_Mo_typeOf_2 1 rfl ?_
  refine v_iconst h0 d_Mo_typeOf_3 (v := nI 0) (by decide) ?_
  refine p_Mo_typeCount_ h0 hC wd_468 d_Mo_typeOf_4 ?_
  refine v_aload_n h0 d_Mo_typeOf_7 1 rfl ?_
  refine v_iload_n h0 d_Mo_typeOf_8 2 rfl ?_
  refine v_callV h0 hC (sR_N0 g) 0 (show 0 < 22 by omega) (show enR g 0 _ = _ from rfl) rfl (av := [.int (nI c)]) (rest := []) (m_Mo_isFunction (kl K) g hI _ hc (hTx.tf (TF.u M 0 _))) wd_592 wd_589 wd_591 ws_36 wd_6 hd_Mo_isFunction (by omega) (by decide) rfl rfl (Nat.le_of_ble_eq_true rfl) d_Mo_typeOf_9 (fun r9 M9 hp9 => ?_)
  obtain ⟨rfl, rfl⟩ := hp9
  refine v_r1 ?_
  refine b_if_eq h0 d_Mo_typeOf_12 rfl (fun h12 => ?_) (fun h12 => ?_)
  · skip
    refine v_iconst h0 d_Mo_typeOf_19 (v := nI 0) (by decide) ?_
    refine v_istore_n h0 d_Mo_typeOf_20 (lv' := [(3, .int (nI 0)), (2, .int (nI 1)), (0, .ref (ga g 0)), (1, .int (nI c))]) (lt_kn hn (by decide)) rfl ?_
    refine v_aload_n h0 d_Mo_typeOf_21 2 rfl ?_
    refine g_Mo_length_ h0 hC wd_451 d_Mo_typeOf_22 ?_
    refine v_iload_n h0 d_Mo_typeOf_25 3 rfl ?_
    refine a_Mo_length_ h0 hC c (rfl) (by omega) d_Mo_typeOf_26 ?_
    refine v_int (nI L) ((hTR.tf (TF.u M 0 _)).1) ?_
    refine v_iconst h0 d_Mo_typeOf_27 (v := nI 1) (by decide) ?_
    refine v_isub h0 d_Mo_typeOf_28 ?_
    refine v_istore h0 d_Mo_typeOf_29 (lv' := [(4, .int ((nI L) - (nI 1))), (3, .int (nI 0)), (2, .int (nI 1)), (0, .ref (ga g 0)), (1, .int (nI c))]) (lt_kn hn (by decide)) rfl ?_
    have hst : stN β c = 0 := by unfold stN; rw [← fn_hd hw, h12]; rfl
    have hty : tyI β c = TY (β (20 + c)) (tnI β c) (fjB β c) 6 0 := by unfold tyI; rw [hst]
    rw [hst] at hok hen hlo hU
    rw [hty] at hFin
    refine v_sub [0, 1, 2, 3, 4] rfl ?_
    refine v_eq (?_ : V K (wp (sR g)) (up2 M 0 20 (nI 0)) 31 [(4, .int (pdI (EN (β (20 + c)) 6 0))), (3, .int (nI 0)), (2, .int (bI true)), (0, .ref (ga g 0)), (1, .int (nI c))] []) rfl rfl (by rw [hen]; rfl) rfl
    exact TyE_all hI h0 hC hn hc 6 _ _ 0 0 true (hTx.tf (TF.u M 0 _)) (hR9.tf (TF.u M 0 _)) (hTR.tf (TF.u M 0 _)) (Nat.le_refl _) hok (by unfold lbR; rw [up2_q _ _ (by omega)]; exact hlo) hU (up2_s _ _ _ _) (by omega) (fun M1 q1 => hFin M1 0 (by omega) q1)
  · skip
    refine v_iconst h0 d_Mo_typeOf_15 (v := nI 2) (by decide) ?_
    refine v_goto h0 d_Mo_typeOf_16 rfl ?_
    refine v_istore_n h0 d_Mo_typeOf_20 (lv' := [(3, .int (nI 2)), (2, .int (nI 1)), (0, .ref (ga g 0)), (1, .int (nI c))]) (lt_kn hn (by decide)) rfl ?_
    refine v_aload_n h0 d_Mo_typeOf_21 2 rfl ?_
    refine g_Mo_length_ h0 hC wd_451 d_Mo_typeOf_22 ?_
    refine v_iload_n h0 d_Mo_typeOf_25 3 rfl ?_
    refine a_Mo_length_ h0 hC c (rfl) (by omega) d_Mo_typeOf_26 ?_
    refine v_int (nI L) ((hTR.tf (TF.u M 0 _)).1) ?_
    refine v_iconst h0 d_Mo_typeOf_27 (v := nI 1) (by decide) ?_
    refine v_isub h0 d_Mo_typeOf_28 ?_
    refine v_istore h0 d_Mo_typeOf_29 (lv' := [(4, .int ((nI L) - (nI 1))), (3, .int (nI 2)), (2, .int (nI 1)), (0, .ref (ga g 0)), (1, .int (nI c))]) (lt_kn hn (by decide)) rfl ?_
    have hst : stN β c = 2 := by unfold stN; rw [← fn_hd hw, h12]; rfl
    have hty : tyI β c = TY (β (20 + c)) (tnI β c) (fjB β c) 6 2 := by unfold tyI; rw [hst]
    rw [hst] at hok hen hlo hU
    rw [hty] at hFin
    refine v_sub [0, 1, 2, 3, 4] rfl ?_
    refine v_eq (?_ : V K (wp (sR g)) (up2 M 0 20 (nI 0)) 31 [(4, .int (pdI (EN (β (20 + c)) 6 2))), (3, .int (nI 2)), (2, .int (bI true)), (0, .ref (ga g 0)), (1, .int (nI c))] []) rfl rfl (by rw [hen]; rfl) rfl
    exact TyE_all hI h0 hC hn hc 6 _ _ 2 0 true (hTx.tf (TF.u M 0 _)) (hR9.tf (TF.u M 0 _)) (hTR.tf (TF.u M 0 _)) (Nat.le_refl _) hok (by unfold lbR; rw [up2_q _ _ (by omega)]; exact hlo) hU (up2_s _ _ _ _) (by omega) (fun M1 q1 => hFin M1 2 (by omega) q1)
