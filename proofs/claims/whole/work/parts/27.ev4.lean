/-! THE EVALUATOR (the book): let, call, match -/
theorem m_Te_loc (l : Launch) (g : Gd) (hI : sI (sB g)) (M : Me) {c n k : Nat} {s e : Nat → Int32} {a : Int32} (hc : c < 10) (hk : k < n) (hT : TX M c s n a e) (h9 : kd (s k) = 9) : CB l g y_Te_localAt c_Te_localAt 3 (some .int) 2 [.ref (ga g (17 + c)), .int (nI k)] M (fun r M' => r = some (.int (nI (lcI (s k)))) ∧ M = M') := by
  obtain ⟨rfl, hl, rfl, rfl, hch, hn24⟩ := hT
  exact m_Te_localAt l g hI M hc hn24 hk hl hch h9
theorem up_back {M1 M2 : Me} {i j : Nat} {v : Int32} (h : M2 i = up2 M1 i j v i) : up2 M2 i j (M1 i j) i = M1 i := by
  unfold up2
  rw [upR_s, h]
  funext q
  unfold up2 upd
  rw [upR_s]
  by_cases hq : q = j
  · rw [if_pos hq, hq]
  · rw [if_neg hq, if_neg hq]
theorem EvL.set {M : Me} {f : Nat} {b : Nat → Bool} {lc : Nat → Int32} (h : EvL M f b lc) (i : Nat) (v : Int32) : EvL (up2 M (53 + f) i v) f (bSet b i) (upd lc i v) := by
  intro j hj hb
  unfold upd
  by_cases q : j = i
  · subst q; rw [up2_s, if_pos rfl]
  · rw [up2_n _ _ (by omega), if_neg q]
    unfold bSet at hb
    simp [q] at hb
    exact h j hj hb
set_option maxHeartbeats 4000000 in
theorem m_Ev_ofBinding (l : Launch) (g : Gd) (hI : sI (sB g)) (M : Me) {c n k f d o m : Nat} {s e : Nat → Int32} {a : Int32} {b : Nat → Bool} {lc : Nat → Int32} {tx : Nat → Nat → Int32} {df : Nat → Nat} {am tn : Nat → Int32} {fn : Nat → Bool} (hc : c < 10) (hf : f + o = 5) (hd : d + 1 ≤ 6) (hA : EvA M c n f s e a tx df am tn fn) (hL : EvL M f b lc) (hm : M 4 2 = nI m) (hm2 : m ≤ 2000) (he0 : M 4 4 = 0) (hED : ED l g o d) (h1n : k + 1 < n) (h9 : kd (s (k + 1)) = 9) (ok1 : OK s n d b (k + 2) = true) (eo1 : EO s e d (k + 2)) (ty1 : ¬ TY s tn fn d (k + 2) = 0) (ok2 : OK s n d (bSet b (lcI (s (k + 1)))) (EN s d (k + 2)) = true) (eo2 : EO s e d (EN s d (k + 2))) (ty2 : ¬ TY s tn fn d (EN s d (k + 2)) = 0) {R1 : Rs} (hR1 : EV tx df am (CL tx df am o) c d (k + 2) lc m = R1) : CB l g y_Ev_ofBinding c_Ev_ofBinding 8 (some .int) (2 * (7 * o + d) + 5) [.ref (ga g 4), .ref (ga g (47 + f)), .int (nI k), .int (nI (6 - (d + 1)))] M (EvP f M (bd R1 fun v m1 => bd (EV tx df am (CL tx df am o) c d (EN s d (k + 2)) (upd lc (lcI (s (k + 1))) v) m1) fun w m2 => (0, w, m2))) := by
  have hn24 : n ≤ 24 := hA.2.1.2.2.2.2.2
  have hk24 := OK_lt ok1
  have hf6 : f < 6 := by omega
  refine Ct.of hI (sB_N0 g) rfl (Nat.le_of_ble_eq_true rfl) (fun K h0 hC hR hkl hn => ?_)
  have hC : Cx (sB g) K gC_Ev _ := hC
  show V K (wp (sB g)) M 0 [(0, .ref (ga g 4)), (1, .ref (ga g (47 + f))), (2, .int (nI k)), (3, .int (nI (6 - (d + 1))))] []
  subst hkl
  refine v_aload_n h0 d_Ev_ofBinding_0 0 rfl ?_
  refine v_aload_n h0 d_Ev_ofBinding_1 1 rfl ?_
  refine v_iload_n h0 d_Ev_ofBinding_2 2 rfl ?_
  refine v_iconst h0 d_Ev_ofBinding_3 (v := nI 2) (by decide) ?_
  refine v_iadd h0 d_Ev_ofBinding_4 ?_
  refine v_int (nI (k + 2)) (nI_add k 2) ?_
  refine v_iload_n h0 d_Ev_ofBinding_5 3 rfl ?_
  refine v_iconst h0 d_Ev_ofBinding_6 (v := nI 1) (by decide) ?_
  refine v_iadd h0 d_Ev_ofBinding_7 ?_
  refine v_int (nI (6 - (d + 1) + 1)) (nI_add (6 - (d + 1)) 1) ?_
  refine v_int (nI (6 - d)) (sub_lev hd) ?_
  refine v_callV h0 hC (sB_N0 g) 4 (show 4 < 59 by omega) (eB_Ev g _) rfl (av := [.ref (ga g (47 + f)), .int (nI (k + 2)), .int (nI (6 - d))]) (rest := []) (hED M c n (k + 2) f m s e a b lc tx df am tn fn hc hf hA hL ok1 eo1 ty1 hm hm2 he0) wd_366 wd_363 wd_365 ws_20 wd_4 hd_Ev_ofExpression (by omega) (by decide) rfl rfl (Nat.le_of_ble_eq_true rfl) d_Ev_ofBinding_8 (fun r9 M1 hp9 => ?_)
  obtain ⟨v1, rfl, k1, s1, e1, q1⟩ := hp9
  rw [hR1] at s1 e1 q1
  refine v_r1 ?_
  refine v_istore h0 d_Ev_ofBinding_11 (lv' := [(4, .int v1), (0, .ref (ga g 4)), (1, .ref (ga g (47 + f))), (2, .int (nI k)), (3, .int (nI (6 - (d + 1))))]) (lt_kn hn (by decide)) rfl ?_
  refine v_aload_n h0 d_Ev_ofBinding_13 1 rfl ?_
  refine v_callV h0 hC (sB_N0 g) 4 (show 4 < 59 by omega) (eB_Ev g _) rfl (av := []) (rest := []) (m_Ev_hasFailed (kl K) g hI M1) wd_379 wd_376 wd_378 ws_23 wd_4 hd_Ev_hasFailed (by omega) (by decide) rfl rfl (Nat.le_of_ble_eq_true rfl) d_Ev_ofBinding_14 (fun r9 M9 hp9 => ?_)
  obtain ⟨rfl, rfl⟩ := hp9
  refine v_r1 ?_
  refine b_if_eq h0 d_Ev_ofBinding_17 rfl (fun h17 => ?_) (fun h17 => ?_)
  · skip
    have z0 := hf_f h17
    have z1 : R1.1 = 0 := e1.symm.trans z0
    obtain ⟨rfl, l1⟩ := q1 z1
    have hA1 := hA.kept hc k1
    have hL1 : EvL M1 f b lc := fun j a1 c1 => by rw [l1]; exact hL j a1 c1
    have hm3 : R1.2.2 ≤ 2000 := by rw [← hR1]; exact R_le o c d _ lc hm2
    have hl6 := (lc_of h9).1
    refine v_aload_n h0 d_Ev_ofBinding_22 2 rfl ?_
    refine gN_Fr_text h0 hC (by omega) wn_21 d_Ev_ofBinding_23 ?_
    refine v_top (.ref (ga g (17 + c))) (by rw [hA1.2.2.2, dcT_c g hc]) ?_
    refine v_iload_n h0 d_Ev_ofBinding_26 3 rfl ?_
    refine v_iconst h0 d_Ev_ofBinding_27 (v := nI 1) (by decide) ?_
    refine v_iadd h0 d_Ev_ofBinding_28 ?_
    refine v_int (nI (k + 1)) (nI_add k 1) ?_
    refine v_callV h0 hC (sB_N0 g) (17 + c) (show (17 + c) < 59 by omega) (eB_Te g (by omega) _) rfl (av := [.int (nI (k + 1))]) (rest := []) (m_Te_loc (kl K) g hI M1 hc h1n hA1.2.1 h9) wd_204 wd_389 wd_202 wd_203 wd_3 hd_Te_localAt (by omega) (by decide) rfl rfl (Nat.le_of_ble_eq_true rfl) d_Ev_ofBinding_29 (fun r9 M9 hp9 => ?_)
    obtain ⟨rfl, rfl⟩ := hp9
    refine v_r1 ?_
    refine v_istore h0 d_Ev_ofBinding_32 (lv' := [(5, .int (nI (lcI (s (k + 1))))), (4, .int R1.2.1), (0, .ref (ga g 4)), (1, .ref (ga g (47 + f))), (2, .int (nI k)), (3, .int (nI (6 - (d + 1))))]) (lt_kn hn (by decide)) rfl ?_
    refine v_aload_n h0 d_Ev_ofBinding_34 3 rfl ?_
    refine gN_Fr_locals h0 hC (by omega) wn_20 d_Ev_ofBinding_35 ?_
    refine v_iload h0 d_Ev_ofBinding_38 0 rfl ?_
    refine a_B_bound h0 hC (by omega) (lcI (s (k + 1))) (rfl) (by omega) d_Ev_ofBinding_40 ?_
    refine v_istore h0 d_Ev_ofBinding_41 (lv' := [(6, .int (M1 (53 + f) (lcI (s (k + 1))))), (5, .int (nI (lcI (s (k + 1))))), (4, .int R1.2.1), (0, .ref (ga g 4)), (1, .ref (ga g (47 + f))), (2, .int (nI k)), (3, .int (nI (6 - (d + 1))))]) (lt_kn hn (by decide)) rfl ?_
    refine v_aload_n h0 d_Ev_ofBinding_43 4 rfl ?_
    refine gN_Fr_locals h0 hC (by omega) wn_20 d_Ev_ofBinding_44 ?_
    refine v_iload h0 d_Ev_ofBinding_47 1 rfl ?_
    refine v_iload h0 d_Ev_ofBinding_49 2 rfl ?_
    refine s_B_bound h0 hC (by omega) (lcI (s (k + 1))) (rfl) (z := R1.2.1) (rfl) (by omega) d_Ev_ofBinding_51 ?_
    have k1p := EvK.lo hf6 M1 (lcI (s (k + 1))) R1.2.1
    have hA2 := hA1.kept hc k1p
    have hL2 := hL1.set (lcI (s (k + 1))) R1.2.1
    have s1p : (up2 M1 (53 + f) (lcI (s (k + 1))) R1.2.1) 4 2 = nI R1.2.2 := by rw [up2_r _ _ _ (by omega)]; exact s1
    have z0p : (up2 M1 (53 + f) (lcI (s (k + 1))) R1.2.1) 4 4 = 0 := by rw [up2_r _ _ _ (by omega)]; exact z0
    refine v_aload_n h0 d_Ev_ofBinding_52 3 rfl ?_
    refine v_aload_n h0 d_Ev_ofBinding_53 4 rfl ?_
    refine v_aload_n h0 d_Ev_ofBinding_54 4 rfl ?_
    refine gN_Fr_text h0 hC (by omega) wn_21 d_Ev_ofBinding_55 ?_
    refine v_top (.ref (ga g (17 + c))) (by rw [hA2.2.2.2, dcT_c g hc]) ?_
    refine v_iload_n h0 d_Ev_ofBinding_58 5 rfl ?_
    refine v_iconst h0 d_Ev_ofBinding_59 (v := nI 2) (by decide) ?_
    refine v_iadd h0 d_Ev_ofBinding_60 ?_
    refine v_int (nI (k + 2)) (nI_add k 2) ?_
    refine v_callV h0 hC (sB_N0 g) (17 + c) (show (17 + c) < 59 by omega) (eB_Te g (by omega) _) rfl (av := [.int (nI (k + 2))]) (rest := [.ref (ga g (47 + f)), .ref (ga g 4)]) (m_Te_end (kl K) g hI (up2 M1 (53 + f) (lcI (s (k + 1))) R1.2.1) hc hA2.2.1 ok1 eo1) wd_337 wd_380 wd_335 wd_336 wd_3 hd_Te_endOf (by omega) (by decide) rfl rfl (Nat.le_of_ble_eq_true rfl) d_Ev_ofBinding_61 (fun r9 M9 hp9 => ?_)
    obtain ⟨rfl, rfl⟩ := hp9
    refine v_r1 ?_
    refine v_iload_n h0 d_Ev_ofBinding_64 6 rfl ?_
    refine v_iconst h0 d_Ev_ofBinding_65 (v := nI 1) (by decide) ?_
    refine v_iadd h0 d_Ev_ofBinding_66 ?_
    refine v_int (nI (6 - (d + 1) + 1)) (nI_add (6 - (d + 1)) 1) ?_
    refine v_int (nI (6 - d)) (sub_lev hd) ?_
    refine v_callV h0 hC (sB_N0 g) 4 (show 4 < 59 by omega) (eB_Ev g _) rfl (av := [.ref (ga g (47 + f)), .int (nI (EN s d (k + 2))), .int (nI (6 - d))]) (rest := []) (hED (up2 M1 (53 + f) (lcI (s (k + 1))) R1.2.1) c n (EN s d (k + 2)) f R1.2.2 s e a _ _ tx df am tn fn hc hf hA2 hL2 ok2 eo2 ty2 s1p hm3 z0p) wd_366 wd_363 wd_365 ws_20 wd_4 hd_Ev_ofExpression (by omega) (by decide) rfl rfl (Nat.le_of_ble_eq_true rfl) d_Ev_ofBinding_67 (fun r9 M2 hp9 => ?_)
    obtain ⟨v2, rfl, k2, s2, e2, q2⟩ := hp9
    refine v_r1 ?_
    refine v_istore h0 d_Ev_ofBinding_70 (lv' := [(7, .int v2), (6, .int (M1 (53 + f) (lcI (s (k + 1))))), (5, .int (nI (lcI (s (k + 1))))), (4, .int R1.2.1), (0, .ref (ga g 4)), (1, .ref (ga g (47 + f))), (2, .int (nI k)), (3, .int (nI (6 - (d + 1))))]) (lt_kn hn (by decide)) rfl ?_
    refine v_aload_n h0 d_Ev_ofBinding_72 5 rfl ?_
    refine gN_Fr_locals h0 hC (by omega) wn_20 d_Ev_ofBinding_73 ?_
    refine v_iload h0 d_Ev_ofBinding_76 2 rfl ?_
    refine v_iload h0 d_Ev_ofBinding_78 1 rfl ?_
    refine s_B_bound h0 hC (by omega) (lcI (s (k + 1))) (rfl) (z := M1 (53 + f) (lcI (s (k + 1)))) (rfl) (by omega) d_Ev_ofBinding_80 ?_
    refine v_iload h0 d_Ev_ofBinding_81 0 rfl ?_
    exact v_iret h0 hC hR d_Ev_ofBinding_83 (by rw [bd_o z1]; exact EvP.lift k1 l1 (EvP.bd' ⟨v2, rfl, k1p.trans (k2.trans (EvK.lo hf6 _ _ _)), by rw [up2_r _ _ _ (by omega)]; exact s2, by rw [up2_r _ _ _ (by omega)]; exact e2, fun z => ⟨(q2 z).1, up_back (q2 z).2⟩⟩))
  · skip
    refine v_iconst h0 d_Ev_ofBinding_20 (v := nI 0) (by decide) ?_
    exact v_iret h0 hC hR d_Ev_ofBinding_21 (EvP.err k1 s1 e1 (fun q => hf_t h17 (e1.trans q)) _)
set_option maxHeartbeats 4000000 in
theorem m_Ev_ofCall_0 (l : Launch) (g : Gd) (hI : sI (sB g)) (M : Me) {c n k f d m : Nat} {s e : Nat → Int32} {a : Int32} {b : Nat → Bool} {lc : Nat → Int32} {tx : Nat → Nat → Int32} {df : Nat → Nat} {am tn : Nat → Int32} {fn : Nat → Bool} (hc : c < 10) (hf : f + 0 = 5) (hd : d + 1 ≤ 6) (hA : EvA M c n f s e a tx df am tn fn) (hL : EvL M f b lc) (hm : M 4 2 = nI m) (hm2 : m ≤ 2000) (he0 : M 4 4 = 0) (hED : ED l g 0 d) (h1n : k + 1 < n) (h8 : kd (s (k + 1)) = 8) (hfn : fn (nmI (s (k + 1))) = true) (ok1 : OK s n d b (k + 2) = true) (eo1 : EO s e d (k + 2)) (ty1 : ¬ TY s tn fn d (k + 2) = 0) {R1 : Rs} (hR1 : EV tx df am (CL tx df am 0) c d (k + 2) lc m = R1) : CB l g y_Ev_ofCall c_Ev_ofCall 7 (some .int) (2 * (7 * 0 + d) + 5) [.ref (ga g 4), .ref (ga g (47 + f)), .int (nI k), .int (nI (6 - (d + 1)))] M (EvP f M (bd R1 fun v m1 => bd (CL tx df am 0 (df (nmI (s (k + 1)))) v m1) fun w m2 => (0, w, m2))) := by
  have hn24 : n ≤ 24 := hA.2.1.2.2.2.2.2
  have hk24 := OK_lt ok1
  have hf6 : f < 6 := by omega
  refine Ct.of hI (sB_N0 g) rfl (Nat.le_of_ble_eq_true rfl) (fun K h0 hC hR hkl hn => ?_)
  have hC : Cx (sB g) K gC_Ev _ := hC
  show V K (wp (sB g)) M 0 [(0, .ref (ga g 4)), (1, .ref (ga g (47 + f))), (2, .int (nI k)), (3, .int (nI (6 - (d + 1))))] []
  subst hkl
  refine v_aload_n h0 d_Ev_ofCall_0 0 rfl ?_
  refine v_aload_n h0 d_Ev_ofCall_1 1 rfl ?_
  refine v_iload_n h0 d_Ev_ofCall_2 2 rfl ?_
  refine v_iconst h0 d_Ev_ofCall_3 (v := nI 2) (by decide) ?_
  refine v_iadd h0 d_Ev_ofCall_4 ?_
  refine v_int (nI (k + 2)) (nI_add k 2) ?_
  refine v_iload_n h0 d_Ev_ofCall_5 3 rfl ?_
  refine v_iconst h0 d_Ev_ofCall_6 (v := nI 1) (by decide) ?_
  refine v_iadd h0 d_Ev_ofCall_7 ?_
  refine v_int (nI (6 - (d + 1) + 1)) (nI_add (6 - (d + 1)) 1) ?_
  refine v_int (nI (6 - d)) (sub_lev hd) ?_
  refine v_callV h0 hC (sB_N0 g) 4 (show 4 < 59 by omega) (eB_Ev g _) rfl (av := [.ref (ga g (47 + f)), .int (nI (k + 2)), .int (nI (6 - d))]) (rest := []) (hED M c n (k + 2) f m s e a b lc tx df am tn fn hc hf hA hL ok1 eo1 ty1 hm hm2 he0) wd_366 wd_363 wd_365 ws_20 wd_4 hd_Ev_ofExpression (by omega) (by decide) rfl rfl (Nat.le_of_ble_eq_true rfl) d_Ev_ofCall_8 (fun r9 M1 hp9 => ?_)
  obtain ⟨v1, rfl, k1, s1, e1, q1⟩ := hp9
  rw [hR1] at s1 e1 q1
  refine v_r1 ?_
  refine v_istore h0 d_Ev_ofCall_11 (lv' := [(4, .int v1), (0, .ref (ga g 4)), (1, .ref (ga g (47 + f))), (2, .int (nI k)), (3, .int (nI (6 - (d + 1))))]) (lt_kn hn (by decide)) rfl ?_
  refine v_aload_n h0 d_Ev_ofCall_13 1 rfl ?_
  refine v_callV h0 hC (sB_N0 g) 4 (show 4 < 59 by omega) (eB_Ev g _) rfl (av := []) (rest := []) (m_Ev_hasFailed (kl K) g hI M1) wd_379 wd_376 wd_378 ws_23 wd_4 hd_Ev_hasFailed (by omega) (by decide) rfl rfl (Nat.le_of_ble_eq_true rfl) d_Ev_ofCall_14 (fun r9 M9 hp9 => ?_)
  obtain ⟨rfl, rfl⟩ := hp9
  refine v_r1 ?_
  refine b_if_eq h0 d_Ev_ofCall_17 rfl (fun h17 => ?_) (fun h17 => ?_)
  · skip
    have z0 := hf_f h17
    have z1 : R1.1 = 0 := e1.symm.trans z0
    obtain ⟨rfl, l1⟩ := q1 z1
    have hA1 := hA.kept hc k1
    have hL1 : EvL M1 f b lc := fun j a1 c1 => by rw [l1]; exact hL j a1 c1
    have hm3 : R1.2.2 ≤ 2000 := by rw [← hR1]; exact R_le 0 c d _ lc hm2
    refine v_aload_n h0 d_Ev_ofCall_22 2 rfl ?_
    refine gN_Fr_openFunctions h0 hC (by omega) wn_19 d_Ev_ofCall_23 ?_
    refine v_iconst h0 d_Ev_ofCall_26 (v := nI 5) (by decide) ?_
    refine n_icmp_lt h0 (by omega) (by omega) d_Ev_ofCall_27 rfl (fun h27 => absurd h27 (by omega)) (fun h27 => ?_)
    refine v_aload_n h0 d_Ev_ofCall_30 1 rfl ?_
    refine v_bipush h0 d_Ev_ofCall_31 (v := 9) (by decide) ?_
    refine v_callV h0 hC (sB_N0 g) 4 (show 4 < 59 by omega) (eB_Ev g _) rfl (av := [.int 9]) (rest := []) (m_Ev_fail (kl K) g hI M1 9) wd_370 wd_367 wd_369 ws_21 wd_4 hd_Ev_fail (by omega) (by decide) rfl rfl (Nat.le_of_ble_eq_true rfl) d_Ev_ofCall_33 (fun r9 M9 hp9 => ?_)
    obtain ⟨rfl, rfl⟩ := hp9
    refine v_r1 ?_
    exact v_iret h0 hC hR d_Ev_ofCall_36 (by rw [bd_o z1]; exact EvP.lift k1 l1 (EvP.bd' (R := ((9, 0, R1.2.2) : Rs)) ⟨_, rfl, EvK.er hf6 _ _, by rw [up2_n _ _ (by omega)]; exact s1, up2_s _ _ _ _, fun w => absurd w (by show ¬ (9 : Int32) = 0; decide)⟩))
  · skip
    refine v_iconst h0 d_Ev_ofCall_20 (v := nI 0) (by decide) ?_
    exact v_iret h0 hC hR d_Ev_ofCall_21 (EvP.err k1 s1 e1 (fun q => hf_t h17 (e1.trans q)) _)
set_option maxHeartbeats 4000000 in
theorem m_Ev_ofCall_s (l : Launch) (g : Gd) (hI : sI (sB g)) (M : Me) {c n k f d o m : Nat} {s e : Nat → Int32} {a : Int32} {b : Nat → Bool} {lc : Nat → Int32} {tx : Nat → Nat → Int32} {df : Nat → Nat} {am tn : Nat → Int32} {fn : Nat → Bool} (hc : c < 10) (hf : f + (o + 1) = 5) (hd : d + 1 ≤ 6) (hA : EvA M c n f s e a tx df am tn fn) (hL : EvL M f b lc) (hm : M 4 2 = nI m) (hm2 : m ≤ 2000) (he0 : M 4 4 = 0) (hED : ED l g (o + 1) d) (hEo : ED l g o 6) (h1n : k + 1 < n) (h8 : kd (s (k + 1)) = 8) (hfn : fn (nmI (s (k + 1))) = true) (ok1 : OK s n d b (k + 2) = true) (eo1 : EO s e d (k + 2)) (ty1 : ¬ TY s tn fn d (k + 2) = 0) {R1 : Rs} (hR1 : EV tx df am (CL tx df am (o + 1)) c d (k + 2) lc m = R1) : CB l g y_Ev_ofCall c_Ev_ofCall 7 (some .int) (2 * (7 * (o + 1) + d) + 5) [.ref (ga g 4), .ref (ga g (47 + f)), .int (nI k), .int (nI (6 - (d + 1)))] M (EvP f M (bd R1 fun v m1 => bd (CL tx df am (o + 1) (df (nmI (s (k + 1)))) v m1) fun w m2 => (0, w, m2))) := by
  have hn24 : n ≤ 24 := hA.2.1.2.2.2.2.2
  have hk24 := OK_lt ok1
  have hf6 : f < 6 := by omega
  refine Ct.of hI (sB_N0 g) rfl (Nat.le_of_ble_eq_true rfl) (fun K h0 hC hR hkl hn => ?_)
  have hC : Cx (sB g) K gC_Ev _ := hC
  show V K (wp (sB g)) M 0 [(0, .ref (ga g 4)), (1, .ref (ga g (47 + f))), (2, .int (nI k)), (3, .int (nI (6 - (d + 1))))] []
  subst hkl
  refine v_aload_n h0 d_Ev_ofCall_0 0 rfl ?_
  refine v_aload_n h0 d_Ev_ofCall_1 1 rfl ?_
  refine v_iload_n h0 d_Ev_ofCall_2 2 rfl ?_
  refine v_iconst h0 d_Ev_ofCall_3 (v := nI 2) (by decide) ?_
  refine v_iadd h0 d_Ev_ofCall_4 ?_
  refine v_int (nI (k + 2)) (nI_add k 2) ?_
  refine v_iload_n h0 d_Ev_ofCall_5 3 rfl ?_
  refine v_iconst h0 d_Ev_ofCall_6 (v := nI 1) (by decide) ?_
  refine v_iadd h0 d_Ev_ofCall_7 ?_
  refine v_int (nI (6 - (d + 1) + 1)) (nI_add (6 - (d + 1)) 1) ?_
  refine v_int (nI (6 - d)) (sub_lev hd) ?_
  refine v_callV h0 hC (sB_N0 g) 4 (show 4 < 59 by omega) (eB_Ev g _) rfl (av := [.ref (ga g (47 + f)), .int (nI (k + 2)), .int (nI (6 - d))]) (rest := []) (hED M c n (k + 2) f m s e a b lc tx df am tn fn hc hf hA hL ok1 eo1 ty1 hm hm2 he0) wd_366 wd_363 wd_365 ws_20 wd_4 hd_Ev_ofExpression (by omega) (by decide) rfl rfl (Nat.le_of_ble_eq_true rfl) d_Ev_ofCall_8 (fun r9 M1 hp9 => ?_)
  obtain ⟨v1, rfl, k1, s1, e1, q1⟩ := hp9
  rw [hR1] at s1 e1 q1
  refine v_r1 ?_
  refine v_istore h0 d_Ev_ofCall_11 (lv' := [(4, .int v1), (0, .ref (ga g 4)), (1, .ref (ga g (47 + f))), (2, .int (nI k)), (3, .int (nI (6 - (d + 1))))]) (lt_kn hn (by decide)) rfl ?_
  refine v_aload_n h0 d_Ev_ofCall_13 1 rfl ?_
  refine v_callV h0 hC (sB_N0 g) 4 (show 4 < 59 by omega) (eB_Ev g _) rfl (av := []) (rest := []) (m_Ev_hasFailed (kl K) g hI M1) wd_379 wd_376 wd_378 ws_23 wd_4 hd_Ev_hasFailed (by omega) (by decide) rfl rfl (Nat.le_of_ble_eq_true rfl) d_Ev_ofCall_14 (fun r9 M9 hp9 => ?_)
  obtain ⟨rfl, rfl⟩ := hp9
  refine v_r1 ?_
  refine b_if_eq h0 d_Ev_ofCall_17 rfl (fun h17 => ?_) (fun h17 => ?_)
  · skip
    have z0 := hf_f h17
    have z1 : R1.1 = 0 := e1.symm.trans z0
    obtain ⟨rfl, l1⟩ := q1 z1
    have hA1 := hA.kept hc k1
    have hL1 : EvL M1 f b lc := fun j a1 c1 => by rw [l1]; exact hL j a1 c1
    have hm3 : R1.2.2 ≤ 2000 := by rw [← hR1]; exact R_le (o + 1) c d _ lc hm2
    obtain ⟨hd1, hd2, -⟩ := hA1.1.2.2.1 _ (nm_of h8).1 (Or.inr hfn)
    obtain ⟨n1, a1, e1x, hTx, hstx, h1x, h9x, okx, eox, tyx⟩ := hA1.1.2.2.2.2 _ (nm_of h8).1 hfn
    have hlx := (lc_of h9x).1
    have ka : EvK f M1 (up2 M1 (47 + (f + 1)) 2 (nI (df (nmI (s (k + 1))) + 1))) := ⟨fun i w1 _ => up2_r _ _ _ (by omega), fun j _ _ => by rw [up2_r _ _ _ (by omega)], fun q w1 => up2_r _ _ _ (by omega), fun q w1 => up2_r _ _ _ (by omega)⟩
    have kb : EvK f M1 (up2 (up2 M1 (47 + (f + 1)) 2 (nI (df (nmI (s (k + 1))) + 1))) (53 + (f + 1)) (lcI (tx (df (nmI (s (k + 1)))) 1)) R1.2.1) := ka.trans ⟨fun i w1 _ => up2_r _ _ _ (by omega), fun j _ _ => by rw [up2_r _ _ _ (by omega)], fun q w1 => up2_r _ _ _ (by omega), fun q w1 => up2_r _ _ _ (by omega)⟩
    refine v_aload_n h0 d_Ev_ofCall_22 2 rfl ?_
    refine gN_Fr_openFunctions h0 hC (by omega) wn_19 d_Ev_ofCall_23 ?_
    refine v_iconst h0 d_Ev_ofCall_26 (v := nI 5) (by decide) ?_
    refine n_icmp_lt h0 (by omega) (by omega) d_Ev_ofCall_27 rfl (fun h27 => ?_) (fun h27 => absurd h27 (by omega))
    refine v_aload_n h0 d_Ev_ofCall_37 1 rfl ?_
    refine g_Ev_definers h0 hC wd_123 d_Ev_ofCall_38 ?_
    refine v_top (.ref (ga g 2)) (by rw [hA1.1.1]; rfl) ?_
    refine v_aload_n h0 d_Ev_ofCall_41 2 rfl ?_
    refine gN_Fr_text h0 hC (by omega) wn_21 d_Ev_ofCall_42 ?_
    refine v_top (.ref (ga g (17 + c))) (by rw [hA1.2.2.2, dcT_c g hc]) ?_
    refine v_iload_n h0 d_Ev_ofCall_45 3 rfl ?_
    refine v_iconst h0 d_Ev_ofCall_46 (v := nI 1) (by decide) ?_
    refine v_iadd h0 d_Ev_ofCall_47 ?_
    refine v_int (nI (k + 1)) (nI_add k 1) ?_
    refine v_callV h0 hC (sB_N0 g) (17 + c) (show (17 + c) < 59 by omega) (eB_Te g (by omega) _) rfl (av := [.int (nI (k + 1))]) (rest := [.ref (ga g 2)]) (m_Te_sign (kl K) g hI M1 hc (by omega) hA1.2.1) wd_197 wd_371 wd_195 wd_196 wd_3 hd_Te_signAt (by omega) (by decide) rfl rfl (Nat.le_of_ble_eq_true rfl) d_Ev_ofCall_48 (fun r9 M9 hp9 => ?_)
    obtain ⟨rfl, rfl⟩ := hp9
    refine v_r1 ?_
    refine v_int (s (k + 1)) (if_pos h1n) ?_
    refine v_callSN h0 hC (sB_N0 g) (av := [.ref (ga g 2), .int (s (k + 1))]) (rest := []) (m_B_definerOf (kl K) g hI M1 h8) wd_349 wn_29 wd_348 wd_1 hd_B_definerOf (by omega) (by decide) rfl rfl (Nat.le_of_ble_eq_true rfl) d_Ev_ofCall_51 (fun r9 M9 hp9 => ?_)
    obtain ⟨rfl, rfl⟩ := hp9
    refine v_r1 ?_
    refine v_top (.ref (ga g (7 + (df (nmI (s (k + 1))))))) (by rw [hd2, dcC_c g hd1]; rfl) ?_
    refine v_astore h0 d_Ev_ofCall_54 (lv' := [(5, .ref (ga g (7 + (df (nmI (s (k + 1))))))), (4, .int R1.2.1), (0, .ref (ga g 4)), (1, .ref (ga g (47 + f))), (2, .int (nI k)), (3, .int (nI (6 - (d + 1))))]) (lt_kn hn (by decide)) rfl ?_
    refine v_aload h0 d_Ev_ofCall_56 0 rfl ?_
    refine v_ifnonnull h0 d_Ev_ofCall_58 rfl ?_
    refine v_aload_n h0 d_Ev_ofCall_63 2 rfl ?_
    refine g_Ev_frames h0 hC wd_122 d_Ev_ofCall_64 ?_
    refine v_aload_n h0 d_Ev_ofCall_67 3 rfl ?_
    refine gN_Fr_openFunctions h0 hC (by omega) wn_19 d_Ev_ofCall_68 ?_
    refine v_iconst h0 d_Ev_ofCall_71 (v := nI 1) (by decide) ?_
    refine v_iadd h0 d_Ev_ofCall_72 ?_
    refine v_int (nI (f + 1)) (nI_add f 1) ?_
    refine a_B_frames h0 hC (f + 1) (rfl) (by omega) d_Ev_ofCall_73 ?_
    refine v_astore h0 d_Ev_ofCall_74 (lv' := [(6, .ref (ga g (47 + (f + 1)))), (5, .ref (ga g (7 + (df (nmI (s (k + 1))))))), (4, .int R1.2.1), (0, .ref (ga g 4)), (1, .ref (ga g (47 + f))), (2, .int (nI k)), (3, .int (nI (6 - (d + 1))))]) (lt_kn hn (by decide)) rfl ?_
    refine v_aload h0 d_Ev_ofCall_76 0 rfl ?_
    refine v_aload h0 d_Ev_ofCall_78 1 rfl ?_
    refine gN_Ce_text h0 hC (by omega) wn_4 d_Ev_ofCall_80 ?_
    refine pN_Fr_text h0 hC (by omega) (by omega) wn_21 d_Ev_ofCall_83 ?_
    refine v_aload h0 d_Ev_ofCall_86 0 rfl ?_
    refine gN_Fr_locals h0 hC (by omega) wn_20 d_Ev_ofCall_88 ?_
    refine v_aload h0 d_Ev_ofCall_91 1 rfl ?_
    refine gN_Ce_text h0 hC (by omega) wn_4 d_Ev_ofCall_93 ?_
    refine v_iconst h0 d_Ev_ofCall_96 (v := nI 1) (by decide) ?_
    refine v_callV h0 hC (sB_N0 g) (17 + (df (nmI (s (k + 1))))) (show (17 + (df (nmI (s (k + 1))))) < 59 by omega) (eB_Te g (by omega) _) rfl (av := [.int (nI 1)]) (rest := [.ref (ga g (53 + (f + 1)))]) (m_Te_loc (kl K) g hI (up2 M1 (47 + (f + 1)) 2 (nI (df (nmI (s (k + 1))) + 1))) hd1 h1x (hTx.kept hd1 ka) h9x) wd_204 wd_389 wd_202 wd_203 wd_3 hd_Te_localAt (by omega) (by decide) rfl rfl (Nat.le_of_ble_eq_true rfl) d_Ev_ofCall_97 (fun r9 M9 hp9 => ?_)
    obtain ⟨rfl, rfl⟩ := hp9
    refine v_r1 ?_
    refine v_iload h0 d_Ev_ofCall_100 2 rfl ?_
    refine s_B_bound h0 hC (by omega) (lcI (tx (df (nmI (s (k + 1)))) 1)) (rfl) (z := R1.2.1) (rfl) (by omega) d_Ev_ofCall_102 ?_
    have hA2 : EvA (up2 (up2 M1 (47 + (f + 1)) 2 (nI (df (nmI (s (k + 1))) + 1))) (53 + (f + 1)) (lcI (tx (df (nmI (s (k + 1)))) 1)) R1.2.1) (df (nmI (s (k + 1)))) n1 (f + 1) (tx (df (nmI (s (k + 1))))) e1x a1 tx df am tn fn := ⟨hA1.1.kept kb, hTx.kept hd1 kb, rfl, by rw [up2_r _ _ _ (by omega), up2_s]⟩
    have hL2 : EvL (up2 (up2 M1 (47 + (f + 1)) 2 (nI (df (nmI (s (k + 1))) + 1))) (53 + (f + 1)) (lcI (tx (df (nmI (s (k + 1)))) 1)) R1.2.1) (f + 1) (fun i => decide (i = lcI (tx (df (nmI (s (k + 1)))) 1))) (fun i => if i = lcI (tx (df (nmI (s (k + 1)))) 1) then R1.2.1 else 0) := fun j _ w => by rw [of_decide_eq_true w, up2_s]; exact (if_pos rfl).symm
    have s1p : (up2 (up2 M1 (47 + (f + 1)) 2 (nI (df (nmI (s (k + 1))) + 1))) (53 + (f + 1)) (lcI (tx (df (nmI (s (k + 1)))) 1)) R1.2.1) 4 2 = nI R1.2.2 := by rw [up2_r _ _ _ (by omega), up2_r _ _ _ (by omega)]; exact s1
    have z0p : (up2 (up2 M1 (47 + (f + 1)) 2 (nI (df (nmI (s (k + 1))) + 1))) (53 + (f + 1)) (lcI (tx (df (nmI (s (k + 1)))) 1)) R1.2.1) 4 4 = 0 := by rw [up2_r _ _ _ (by omega), up2_r _ _ _ (by omega)]; exact z0
    refine v_aload_n h0 d_Ev_ofCall_103 3 rfl ?_
    refine v_aload h0 d_Ev_ofCall_104 0 rfl ?_
    refine v_aload h0 d_Ev_ofCall_106 1 rfl ?_
    refine gN_Ce_text h0 hC (by omega) wn_4 d_Ev_ofCall_108 ?_
    refine gN_Te_start h0 hC (by omega) wn_1 d_Ev_ofCall_111 ?_
    refine v_int (nI 2) (by rw [kb.1 _ (by omega) (by omega)]; exact hstx) ?_
    refine v_iconst h0 d_Ev_ofCall_114 (v := nI 0) (by decide) ?_
    refine v_callV h0 hC (sB_N0 g) 4 (show 4 < 59 by omega) (eB_Ev g _) rfl (av := [.ref (ga g (47 + (f + 1))), .int (nI 2), .int (nI 0)]) (rest := []) (hEo (up2 (up2 M1 (47 + (f + 1)) 2 (nI (df (nmI (s (k + 1))) + 1))) (53 + (f + 1)) (lcI (tx (df (nmI (s (k + 1)))) 1)) R1.2.1) (df (nmI (s (k + 1)))) n1 2 (f + 1) R1.2.2 (tx (df (nmI (s (k + 1))))) e1x a1 _ _ tx df am tn fn hd1 (by omega) hA2 hL2 okx eox (by rw [tyx]; decide) s1p hm3 z0p) wd_366 wd_363 wd_365 ws_20 wd_4 hd_Ev_ofExpression (by omega) (by decide) rfl rfl (Nat.le_of_ble_eq_true rfl) d_Ev_ofCall_115 (fun r9 M3 hp9 => ?_)
    obtain ⟨v3, rfl, k3, s3, e3, q3⟩ := hp9
    refine v_r1 ?_
    exact v_iret h0 hC hR d_Ev_ofCall_118 (by rw [bd_o z1]; exact EvP.lift k1 l1 (EvP.bd' ⟨v3, rfl, kb.trans k3.less, s3, e3, fun z => ⟨(q3 z).1, by rw [k3.2.2.2 f (by omega), up2_r _ _ _ (by omega), up2_r _ _ _ (by omega)]⟩⟩))
  · skip
    refine v_iconst h0 d_Ev_ofCall_20 (v := nI 0) (by decide) ?_
    exact v_iret h0 hC hR d_Ev_ofCall_21 (EvP.err k1 s1 e1 (fun q => hf_t h17 (e1.trans q)) _)
set_option maxHeartbeats 4000000 in
theorem m_Ev_ofMatch (l : Launch) (g : Gd) (hI : sI (sB g)) (M : Me) {c n k f d o m : Nat} {s e : Nat → Int32} {a : Int32} {b : Nat → Bool} {lc : Nat → Int32} {tx : Nat → Nat → Int32} {df : Nat → Nat} {am tn : Nat → Int32} {fn : Nat → Bool} (hc : c < 10) (hf : f + o = 5) (hd : d + 1 ≤ 6) (hA : EvA M c n f s e a tx df am tn fn) (hL : EvL M f b lc) (hm : M 4 2 = nI m) (hm2 : m ≤ 2000) (he0 : M 4 4 = 0) (hED : ED l g o d) (ok1 : OK s n d b (k + 1) = true) (eo1 : EO s e d (k + 1)) (ty1 : ¬ TY s tn fn d (k + 1) = 0) (d1 : EN s d (k + 1) < n) (ok2 : OK s n d b (EN s d (k + 1) + 1) = true) (eo2 : EO s e d (EN s d (k + 1) + 1)) (ty2 : ¬ TY s tn fn d (EN s d (k + 1) + 1) = 0) (d2 : EN s d (EN s d (k + 1) + 1) < n) (ok3 : OK s n d b (EN s d (EN s d (k + 1) + 1) + 1) = true) (eo3 : EO s e d (EN s d (EN s d (k + 1) + 1) + 1)) (ty3 : ¬ TY s tn fn d (EN s d (EN s d (k + 1) + 1) + 1) = 0) {R1 : Rs} (hR1 : EV tx df am (CL tx df am o) c d (k + 1) lc m = R1) : CB l g y_Ev_ofMatch c_Ev_ofMatch 7 (some .int) (2 * (7 * o + d) + 5) [.ref (ga g 4), .ref (ga g (47 + f)), .int (nI k), .int (nI (6 - (d + 1)))] M (EvP f M (bd R1 fun v m1 => if v = s (EN s d (k + 1)) - 48 then bd (EV tx df am (CL tx df am o) c d (EN s d (k + 1) + 1) lc m1) (fun w m2 => (0, w, m2)) else if v = s (EN s d (EN s d (k + 1) + 1)) - 48 then bd (EV tx df am (CL tx df am o) c d (EN s d (EN s d (k + 1) + 1) + 1) lc m1) (fun w m2 => (0, w, m2)) else (8, 0, m1))) := by
  have hn24 : n ≤ 24 := hA.2.1.2.2.2.2.2
  have hk24 := OK_lt ok1
  have hf6 : f < 6 := by omega
  refine Ct.of hI (sB_N0 g) rfl (Nat.le_of_ble_eq_true rfl) (fun K h0 hC hR hkl hn => ?_)
  have hC : Cx (sB g) K gC_Ev _ := hC
  show V K (wp (sB g)) M 0 [(0, .ref (ga g 4)), (1, .ref (ga g (47 + f))), (2, .int (nI k)), (3, .int (nI (6 - (d + 1))))] []
  subst hkl
  refine v_aload_n h0 d_Ev_ofMatch_0 0 rfl ?_
  refine v_aload_n h0 d_Ev_ofMatch_1 1 rfl ?_
  refine v_iload_n h0 d_Ev_ofMatch_2 2 rfl ?_
  refine v_iconst h0 d_Ev_ofMatch_3 (v := nI 1) (by decide) ?_
  refine v_iadd h0 d_Ev_ofMatch_4 ?_
  refine v_int (nI (k + 1)) (nI_add k 1) ?_
  refine v_iload_n h0 d_Ev_ofMatch_5 3 rfl ?_
  refine v_iconst h0 d_Ev_ofMatch_6 (v := nI 1) (by decide) ?_
  refine v_iadd h0 d_Ev_ofMatch_7 ?_
  refine v_int (nI (6 - (d + 1) + 1)) (nI_add (6 - (d + 1)) 1) ?_
  refine v_int (nI (6 - d)) (sub_lev hd) ?_
  refine v_callV h0 hC (sB_N0 g) 4 (show 4 < 59 by omega) (eB_Ev g _) rfl (av := [.ref (ga g (47 + f)), .int (nI (k + 1)), .int (nI (6 - d))]) (rest := []) (hED M c n (k + 1) f m s e a b lc tx df am tn fn hc hf hA hL ok1 eo1 ty1 hm hm2 he0) wd_366 wd_363 wd_365 ws_20 wd_4 hd_Ev_ofExpression (by omega) (by decide) rfl rfl (Nat.le_of_ble_eq_true rfl) d_Ev_ofMatch_8 (fun r9 M1 hp9 => ?_)
  obtain ⟨v1, rfl, k1, s1, e1, q1⟩ := hp9
  rw [hR1] at s1 e1 q1
  refine v_r1 ?_
  refine v_istore h0 d_Ev_ofMatch_11 (lv' := [(4, .int v1), (0, .ref (ga g 4)), (1, .ref (ga g (47 + f))), (2, .int (nI k)), (3, .int (nI (6 - (d + 1))))]) (lt_kn hn (by decide)) rfl ?_
  refine v_aload_n h0 d_Ev_ofMatch_13 1 rfl ?_
  refine v_callV h0 hC (sB_N0 g) 4 (show 4 < 59 by omega) (eB_Ev g _) rfl (av := []) (rest := []) (m_Ev_hasFailed (kl K) g hI M1) wd_379 wd_376 wd_378 ws_23 wd_4 hd_Ev_hasFailed (by omega) (by decide) rfl rfl (Nat.le_of_ble_eq_true rfl) d_Ev_ofMatch_14 (fun r9 M9 hp9 => ?_)
  obtain ⟨rfl, rfl⟩ := hp9
  refine v_r1 ?_
  refine b_if_eq h0 d_Ev_ofMatch_17 rfl (fun h17 => ?_) (fun h17 => ?_)
  · skip
    have z0 := hf_f h17
    have z1 : R1.1 = 0 := e1.symm.trans z0
    obtain ⟨rfl, l1⟩ := q1 z1
    have hA1 := hA.kept hc k1
    have hL1 : EvL M1 f b lc := fun j a1 c1 => by rw [l1]; exact hL j a1 c1
    have hm3 : R1.2.2 ≤ 2000 := by rw [← hR1]; exact R_le o c d _ lc hm2
    refine v_aload_n h0 d_Ev_ofMatch_22 2 rfl ?_
    refine gN_Fr_text h0 hC (by omega) wn_21 d_Ev_ofMatch_23 ?_
    refine v_top (.ref (ga g (17 + c))) (by rw [hA1.2.2.2, dcT_c g hc]) ?_
    refine v_iload_n h0 d_Ev_ofMatch_26 3 rfl ?_
    refine v_iconst h0 d_Ev_ofMatch_27 (v := nI 1) (by decide) ?_
    refine v_iadd h0 d_Ev_ofMatch_28 ?_
    refine v_int (nI (k + 1)) (nI_add k 1) ?_
    refine v_callV h0 hC (sB_N0 g) (17 + c) (show (17 + c) < 59 by omega) (eB_Te g (by omega) _) rfl (av := [.int (nI (k + 1))]) (rest := []) (m_Te_end (kl K) g hI M1 hc hA1.2.1 ok1 eo1) wd_337 wd_380 wd_335 wd_336 wd_3 hd_Te_endOf (by omega) (by decide) rfl rfl (Nat.le_of_ble_eq_true rfl) d_Ev_ofMatch_29 (fun r9 M9 hp9 => ?_)
    obtain ⟨rfl, rfl⟩ := hp9
    refine v_r1 ?_
    refine v_istore h0 d_Ev_ofMatch_32 (lv' := [(5, .int (nI (EN s d (k + 1)))), (4, .int R1.2.1), (0, .ref (ga g 4)), (1, .ref (ga g (47 + f))), (2, .int (nI k)), (3, .int (nI (6 - (d + 1))))]) (lt_kn hn (by decide)) rfl ?_
    refine v_iconst h0 d_Ev_ofMatch_34 (v := nI 0) (by decide) ?_
    refine v_istore h0 d_Ev_ofMatch_35 (lv' := [(6, .int (nI 0)), (5, .int (nI (EN s d (k + 1)))), (4, .int R1.2.1), (0, .ref (ga g 4)), (1, .ref (ga g (47 + f))), (2, .int (nI k)), (3, .int (nI (6 - (d + 1))))]) (lt_kn hn (by decide)) rfl ?_
    refine v_iload h0 d_Ev_ofMatch_37 0 rfl ?_
    refine v_iconst h0 d_Ev_ofMatch_39 (v := nI 2) (by decide) ?_
    refine n_icmp_ge h0 (by omega) (by omega) d_Ev_ofMatch_40 rfl (fun h40 => absurd h40 (by omega)) (fun h40 => ?_)
    refine v_aload_n h0 d_Ev_ofMatch_43 4 rfl ?_
    refine gN_Fr_text h0 hC (by omega) wn_21 d_Ev_ofMatch_44 ?_
    refine v_top (.ref (ga g (17 + c))) (by rw [hA1.2.2.2, dcT_c g hc]) ?_
    refine v_iload h0 d_Ev_ofMatch_47 1 rfl ?_
    refine v_callV h0 hC (sB_N0 g) (17 + c) (show (17 + c) < 59 by omega) (eB_Te g (by omega) _) rfl (av := [.int (nI (EN s d (k + 1)))]) (rest := []) (m_Te_sign (kl K) g hI M1 hc (by omega) hA1.2.1) wd_197 wd_371 wd_195 wd_196 wd_3 hd_Te_signAt (by omega) (by decide) rfl rfl (Nat.le_of_ble_eq_true rfl) d_Ev_ofMatch_49 (fun r9 M9 hp9 => ?_)
    obtain ⟨rfl, rfl⟩ := hp9
    refine v_r1 ?_
    refine v_int (s (EN s d (k + 1))) (if_pos d1) ?_
    refine v_bipush h0 d_Ev_ofMatch_52 (v := 48) (by decide) ?_
    refine v_isub h0 d_Ev_ofMatch_54 ?_
    refine v_iload h0 d_Ev_ofMatch_55 2 rfl ?_
    refine v_icmp_ne h0 d_Ev_ofMatch_57 rfl (fun h57 => ?_) (fun h57 => ?_)
    · skip
      have y1 := h57
      refine v_aload_n h0 d_Ev_ofMatch_73 4 rfl ?_
      refine gN_Fr_text h0 hC (by omega) wn_21 d_Ev_ofMatch_74 ?_
      refine v_top (.ref (ga g (17 + c))) (by rw [hA1.2.2.2, dcT_c g hc]) ?_
      refine v_iload h0 d_Ev_ofMatch_77 1 rfl ?_
      refine v_iconst h0 d_Ev_ofMatch_79 (v := nI 1) (by decide) ?_
      refine v_iadd h0 d_Ev_ofMatch_80 ?_
      refine v_int (nI (EN s d (k + 1) + 1)) (nI_add (EN s d (k + 1)) 1) ?_
      refine v_callV h0 hC (sB_N0 g) (17 + c) (show (17 + c) < 59 by omega) (eB_Te g (by omega) _) rfl (av := [.int (nI (EN s d (k + 1) + 1))]) (rest := []) (m_Te_end (kl K) g hI M1 hc hA1.2.1 ok2 eo2) wd_337 wd_380 wd_335 wd_336 wd_3 hd_Te_endOf (by omega) (by decide) rfl rfl (Nat.le_of_ble_eq_true rfl) d_Ev_ofMatch_81 (fun r9 M9 hp9 => ?_)
      obtain ⟨rfl, rfl⟩ := hp9
      refine v_r1 ?_
      refine v_istore h0 d_Ev_ofMatch_84 (lv' := [(5, .int (nI (EN s d (EN s d (k + 1) + 1)))), (6, .int (nI 0)), (4, .int R1.2.1), (0, .ref (ga g 4)), (1, .ref (ga g (47 + f))), (2, .int (nI k)), (3, .int (nI (6 - (d + 1))))]) (lt_kn hn (by decide)) rfl ?_
      refine v_iinc h0 d_Ev_ofMatch_86 (lv' := [(6, .int (nI (0 + 1))), (5, .int (nI (EN s d (EN s d (k + 1) + 1)))), (4, .int R1.2.1), (0, .ref (ga g 4)), (1, .ref (ga g (47 + f))), (2, .int (nI k)), (3, .int (nI (6 - (d + 1))))]) 1 rfl (inc1 0) (lt_kn hn (by decide)) rfl ?_
      refine v_goto h0 d_Ev_ofMatch_89 rfl ?_
      refine v_iload h0 d_Ev_ofMatch_37 0 rfl ?_
      refine v_iconst h0 d_Ev_ofMatch_39 (v := nI 2) (by decide) ?_
      refine n_icmp_ge h0 (by omega) (by omega) d_Ev_ofMatch_40 rfl (fun h40 => absurd h40 (by omega)) (fun h40 => ?_)
      refine v_aload_n h0 d_Ev_ofMatch_43 4 rfl ?_
      refine gN_Fr_text h0 hC (by omega) wn_21 d_Ev_ofMatch_44 ?_
      refine v_top (.ref (ga g (17 + c))) (by rw [hA1.2.2.2, dcT_c g hc]) ?_
      refine v_iload h0 d_Ev_ofMatch_47 1 rfl ?_
      refine v_callV h0 hC (sB_N0 g) (17 + c) (show (17 + c) < 59 by omega) (eB_Te g (by omega) _) rfl (av := [.int (nI (EN s d (EN s d (k + 1) + 1)))]) (rest := []) (m_Te_sign (kl K) g hI M1 hc (by omega) hA1.2.1) wd_197 wd_371 wd_195 wd_196 wd_3 hd_Te_signAt (by omega) (by decide) rfl rfl (Nat.le_of_ble_eq_true rfl) d_Ev_ofMatch_49 (fun r9 M9 hp9 => ?_)
      obtain ⟨rfl, rfl⟩ := hp9
      refine v_r1 ?_
      refine v_int (s (EN s d (EN s d (k + 1) + 1))) (if_pos d2) ?_
      refine v_bipush h0 d_Ev_ofMatch_52 (v := 48) (by decide) ?_
      refine v_isub h0 d_Ev_ofMatch_54 ?_
      refine v_iload h0 d_Ev_ofMatch_55 2 rfl ?_
      refine v_icmp_ne h0 d_Ev_ofMatch_57 rfl (fun h57 => ?_) (fun h57 => ?_)
      · skip
        have y2 := h57
        refine v_aload_n h0 d_Ev_ofMatch_73 4 rfl ?_
        refine gN_Fr_text h0 hC (by omega) wn_21 d_Ev_ofMatch_74 ?_
        refine v_top (.ref (ga g (17 + c))) (by rw [hA1.2.2.2, dcT_c g hc]) ?_
        refine v_iload h0 d_Ev_ofMatch_77 1 rfl ?_
        refine v_iconst h0 d_Ev_ofMatch_79 (v := nI 1) (by decide) ?_
        refine v_iadd h0 d_Ev_ofMatch_80 ?_
        refine v_int (nI (EN s d (EN s d (k + 1) + 1) + 1)) (nI_add (EN s d (EN s d (k + 1) + 1)) 1) ?_
        refine v_callV h0 hC (sB_N0 g) (17 + c) (show (17 + c) < 59 by omega) (eB_Te g (by omega) _) rfl (av := [.int (nI (EN s d (EN s d (k + 1) + 1) + 1))]) (rest := []) (m_Te_end (kl K) g hI M1 hc hA1.2.1 ok3 eo3) wd_337 wd_380 wd_335 wd_336 wd_3 hd_Te_endOf (by omega) (by decide) rfl rfl (Nat.le_of_ble_eq_true rfl) d_Ev_ofMatch_81 (fun r9 M9 hp9 => ?_)
        obtain ⟨rfl, rfl⟩ := hp9
        refine v_r1 ?_
        refine v_istore h0 d_Ev_ofMatch_84 (lv' := [(5, .int (nI (EN s d (EN s d (EN s d (k + 1) + 1) + 1)))), (6, .int (nI (0 + 1))), (4, .int R1.2.1), (0, .ref (ga g 4)), (1, .ref (ga g (47 + f))), (2, .int (nI k)), (3, .int (nI (6 - (d + 1))))]) (lt_kn hn (by decide)) rfl ?_
        refine v_iinc h0 d_Ev_ofMatch_86 (lv' := [(6, .int (nI (0 + 1 + 1))), (5, .int (nI (EN s d (EN s d (EN s d (k + 1) + 1) + 1)))), (4, .int R1.2.1), (0, .ref (ga g 4)), (1, .ref (ga g (47 + f))), (2, .int (nI k)), (3, .int (nI (6 - (d + 1))))]) 1 rfl (inc1 (0 + 1)) (lt_kn hn (by decide)) rfl ?_
        refine v_goto h0 d_Ev_ofMatch_89 rfl ?_
        refine v_iload h0 d_Ev_ofMatch_37 0 rfl ?_
        refine v_iconst h0 d_Ev_ofMatch_39 (v := nI 2) (by decide) ?_
        refine n_icmp_ge h0 (by omega) (by omega) d_Ev_ofMatch_40 rfl (fun h40 => ?_) (fun h40 => absurd h40 (by omega))
        refine v_aload_n h0 d_Ev_ofMatch_92 3 rfl ?_
        refine v_bipush h0 d_Ev_ofMatch_93 (v := 8) (by decide) ?_
        refine v_callV h0 hC (sB_N0 g) 4 (show 4 < 59 by omega) (eB_Ev g _) rfl (av := [.int 8]) (rest := []) (m_Ev_fail (kl K) g hI M1 8) wd_370 wd_367 wd_369 ws_21 wd_4 hd_Ev_fail (by omega) (by decide) rfl rfl (Nat.le_of_ble_eq_true rfl) d_Ev_ofMatch_95 (fun r9 M9 hp9 => ?_)
        obtain ⟨rfl, rfl⟩ := hp9
        refine v_r1 ?_
        exact v_iret h0 hC hR d_Ev_ofMatch_98 (by rw [bd_o z1, if_neg (fun q => y1 q.symm), if_neg (fun q => y2 q.symm)]; exact EvP.lift k1 l1 ⟨_, rfl, EvK.er hf6 _ _, by rw [up2_n _ _ (by omega)]; exact s1, up2_s _ _ _ _, fun w => absurd w (by show ¬ (8 : Int32) = 0; decide)⟩)
      · skip
        have y2 := h57.symm
        refine v_aload_n h0 d_Ev_ofMatch_60 3 rfl ?_
        refine v_aload_n h0 d_Ev_ofMatch_61 4 rfl ?_
        refine v_iload h0 d_Ev_ofMatch_62 1 rfl ?_
        refine v_iconst h0 d_Ev_ofMatch_64 (v := nI 1) (by decide) ?_
        refine v_iadd h0 d_Ev_ofMatch_65 ?_
        refine v_int (nI (EN s d (EN s d (k + 1) + 1) + 1)) (nI_add (EN s d (EN s d (k + 1) + 1)) 1) ?_
        refine v_iload_n h0 d_Ev_ofMatch_66 6 rfl ?_
        refine v_iconst h0 d_Ev_ofMatch_67 (v := nI 1) (by decide) ?_
        refine v_iadd h0 d_Ev_ofMatch_68 ?_
        refine v_int (nI (6 - (d + 1) + 1)) (nI_add (6 - (d + 1)) 1) ?_
        refine v_int (nI (6 - d)) (sub_lev hd) ?_
        refine v_callV h0 hC (sB_N0 g) 4 (show 4 < 59 by omega) (eB_Ev g _) rfl (av := [.ref (ga g (47 + f)), .int (nI (EN s d (EN s d (k + 1) + 1) + 1)), .int (nI (6 - d))]) (rest := []) (hED M1 c n (EN s d (EN s d (k + 1) + 1) + 1) f R1.2.2 s e a _ lc tx df am tn fn hc hf hA1 hL1 ok3 eo3 ty3 s1 hm3 z0) wd_366 wd_363 wd_365 ws_20 wd_4 hd_Ev_ofExpression (by omega) (by decide) rfl rfl (Nat.le_of_ble_eq_true rfl) d_Ev_ofMatch_69 (fun r9 M2 hp9 => ?_)
        obtain ⟨v2, rfl, k2, s2, e2, q2⟩ := hp9
        refine v_r1 ?_
        exact v_iret h0 hC hR d_Ev_ofMatch_72 (by rw [bd_o z1, if_neg (fun q => y1 q.symm), if_pos y2]; exact EvP.lift k1 l1 (EvP.bd' ⟨v2, rfl, k2, s2, e2, q2⟩))
    · skip
      have y1 := h57.symm
      refine v_aload_n h0 d_Ev_ofMatch_60 3 rfl ?_
      refine v_aload_n h0 d_Ev_ofMatch_61 4 rfl ?_
      refine v_iload h0 d_Ev_ofMatch_62 1 rfl ?_
      refine v_iconst h0 d_Ev_ofMatch_64 (v := nI 1) (by decide) ?_
      refine v_iadd h0 d_Ev_ofMatch_65 ?_
      refine v_int (nI (EN s d (k + 1) + 1)) (nI_add (EN s d (k + 1)) 1) ?_
      refine v_iload_n h0 d_Ev_ofMatch_66 6 rfl ?_
      refine v_iconst h0 d_Ev_ofMatch_67 (v := nI 1) (by decide) ?_
      refine v_iadd h0 d_Ev_ofMatch_68 ?_
      refine v_int (nI (6 - (d + 1) + 1)) (nI_add (6 - (d + 1)) 1) ?_
      refine v_int (nI (6 - d)) (sub_lev hd) ?_
      refine v_callV h0 hC (sB_N0 g) 4 (show 4 < 59 by omega) (eB_Ev g _) rfl (av := [.ref (ga g (47 + f)), .int (nI (EN s d (k + 1) + 1)), .int (nI (6 - d))]) (rest := []) (hED M1 c n (EN s d (k + 1) + 1) f R1.2.2 s e a _ lc tx df am tn fn hc hf hA1 hL1 ok2 eo2 ty2 s1 hm3 z0) wd_366 wd_363 wd_365 ws_20 wd_4 hd_Ev_ofExpression (by omega) (by decide) rfl rfl (Nat.le_of_ble_eq_true rfl) d_Ev_ofMatch_69 (fun r9 M2 hp9 => ?_)
      obtain ⟨v2, rfl, k2, s2, e2, q2⟩ := hp9
      refine v_r1 ?_
      exact v_iret h0 hC hR d_Ev_ofMatch_72 (by rw [bd_o z1, if_pos y1]; exact EvP.lift k1 l1 (EvP.bd' ⟨v2, rfl, k2, s2, e2, q2⟩))
  · skip
    refine v_iconst h0 d_Ev_ofMatch_20 (v := nI 0) (by decide) ?_
    exact v_iret h0 hC hR d_Ev_ofMatch_21 (EvP.err k1 s1 e1 (fun q => hf_t h17 (e1.trans q)) _)
