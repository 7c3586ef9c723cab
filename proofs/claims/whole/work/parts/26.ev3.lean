/-! THE EVALUATOR (the book): signs with operands; m steps have been made when they begin -/
theorem R_le {tx : Nat → Nat → Int32} {df : Nat → Nat} {am : Nat → Int32} (o c d k : Nat) (lc : Nat → Int32) {m : Nat} (h : m ≤ 2000) : (EV tx df am (CL tx df am o) c d k lc m).2.2 ≤ 2000 := EV_le (CL_le o) c d k lc m h
theorem jn_43 {x : Int32} (h : x = 43) (a b : Int32) (n : Nat) : jn x a b n = (0, a + b, n) := by subst h; rfl
theorem jn_45 {x : Int32} (h : x = 45) (a b : Int32) (n : Nat) : jn x a b n = (0, a - b, n) := by subst h; rfl
theorem jn_42 {x : Int32} (h : x = 42) (a b : Int32) (n : Nat) : jn x a b n = (0, a * b, n) := by subst h; rfl
theorem jn_60 {x : Int32} (h : x = 60) (a b : Int32) (n : Nat) : jn x a b n = (0, if a < b then 1 else 0, n) := by subst h; rfl
theorem jn_61 {x : Int32} (h : x = 61) (a b : Int32) (n : Nat) : jn x a b n = (0, if a = b then 1 else 0, n) := by subst h; rfl
theorem jn_47 {x : Int32} (h : x = 47) (a : Int32) {b : Int32} (hb : ¬ b = 0) (n : Nat) : jn x a b n = (0, a / b, n) := by subst h; unfold jn; rw [if_neg (by decide), if_pos rfl, if_neg hb]
theorem jn_z {x : Int32} (h : x = 47) (a : Int32) {b : Int32} (hb : b = 0) (n : Nat) : jn x a b n = (7, 0, n) := by subst h; unfold jn; rw [if_neg (by decide), if_pos rfl, if_pos hb]
theorem EvP.val {f : Nat} {M M' : Me} {R : Rs} (k : EvK f M M') (h2 : M' 4 2 = nI R.2.2) (h4 : M' 4 4 = 0) (z : R.1 = 0) (l : M' (53 + f) = M (53 + f)) : EvP f M R (some (.int R.2.1)) M' := ⟨_, rfl, k, h2, h4.trans z.symm, fun _ => ⟨rfl, l⟩⟩
set_option maxHeartbeats 4000000 in
theorem m_Ev_ofBoth (l : Launch) (g : Gd) (hI : sI (sB g)) (M : Me) {c n k f d o m : Nat} {s e : Nat → Int32} {a : Int32} {b : Nat → Bool} {lc : Nat → Int32} {tx : Nat → Nat → Int32} {df : Nat → Nat} {am tn : Nat → Int32} {fn : Nat → Bool} (hc : c < 10) (hf : f + o = 5) (hd : d + 1 ≤ 6) (hA : EvA M c n f s e a tx df am tn fn) (hL : EvL M f b lc) (hm : M 4 2 = nI m) (hm2 : m ≤ 2000) (he0 : M 4 4 = 0) (hED : ED l g o d) (ok1 : OK s n d b (k + 1) = true) (eo1 : EO s e d (k + 1)) (ty1 : ¬ TY s tn fn d (k + 1) = 0) (ok2 : OK s n d b (EN s d (k + 1)) = true) (eo2 : EO s e d (EN s d (k + 1))) (ty2 : ¬ TY s tn fn d (EN s d (k + 1)) = 0) {R1 : Rs} (hR1 : EV tx df am (CL tx df am o) c d (k + 1) lc m = R1) : CB l g y_Ev_ofBoth c_Ev_ofBoth 5 (some .int) (2 * (7 * o + d) + 5) [.ref (ga g 4), .ref (ga g (47 + f)), .int (nI k), .int (nI (6 - (d + 1)))] M (EvP f M (bd R1 fun v m1 => if v = 0 then (0, 0, m1) else bd (EV tx df am (CL tx df am o) c d (EN s d (k + 1)) lc m1) fun w m2 => (0, w, m2))) := by
  have hn24 : n ≤ 24 := hA.2.1.2.2.2.2.2
  have hk24 := OK_lt ok1
  have hf6 : f < 6 := by omega
  refine Ct.of hI (sB_N0 g) rfl (Nat.le_of_ble_eq_true rfl) (fun K h0 hC hR hkl hn => ?_)
  have hC : Cx (sB g) K gC_Ev _ := hC
  show V K (wp (sB g)) M 0 [(0, .ref (ga g 4)), (1, .ref (ga g (47 + f))), (2, .int (nI k)), (3, .int (nI (6 - (d + 1))))] []
  subst hkl
  refine v_aload_n h0 d_Ev_ofBoth_0 0 rfl ?_
  refine v_aload_n h0 d_Ev_ofBoth_1 1 rfl ?_
  refine v_iload_n h0 d_Ev_ofBoth_2 2 rfl ?_
  refine v_iconst h0 d_Ev_ofBoth_3 (v := nI 1) (by decide) ?_
  refine v_iadd h0 d_Ev_ofBoth_4 ?_
  refine v_int (nI (k + 1)) (nI_add k 1) ?_
  refine v_iload_n h0 d_Ev_ofBoth_5 3 rfl ?_
  refine v_iconst h0 d_Ev_ofBoth_6 (v := nI 1) (by decide) ?_
  refine v_iadd h0 d_Ev_ofBoth_7 ?_
  refine v_int (nI (6 - (d + 1) + 1)) (nI_add (6 - (d + 1)) 1) ?_
  refine v_int (nI (6 - d)) (sub_lev hd) ?_
  refine v_callV h0 hC (sB_N0 g) 4 (show 4 < 59 by omega) (eB_Ev g _) rfl (av := [.ref (ga g (47 + f)), .int (nI (k + 1)), .int (nI (6 - d))]) (rest := []) (hED M c n (k + 1) f m s e a b lc tx df am tn fn hc hf hA hL ok1 eo1 ty1 hm hm2 he0) wd_366 wd_363 wd_365 ws_20 wd_4 hd_Ev_ofExpression (by omega) (by decide) rfl rfl (Nat.le_of_ble_eq_true rfl) d_Ev_ofBoth_8 (fun r9 M1 hp9 => ?_)
  obtain ⟨v1, rfl, k1, s1, e1, q1⟩ := hp9
  rw [hR1] at s1 e1 q1
  refine v_r1 ?_
  refine v_istore h0 d_Ev_ofBoth_11 (lv' := [(4, .int v1), (0, .ref (ga g 4)), (1, .ref (ga g (47 + f))), (2, .int (nI k)), (3, .int (nI (6 - (d + 1))))]) (lt_kn hn (by decide)) rfl ?_
  refine v_aload_n h0 d_Ev_ofBoth_13 1 rfl ?_
  refine v_callV h0 hC (sB_N0 g) 4 (show 4 < 59 by omega) (eB_Ev g _) rfl (av := []) (rest := []) (m_Ev_hasFailed (kl K) g hI M1) wd_379 wd_376 wd_378 ws_23 wd_4 hd_Ev_hasFailed (by omega) (by decide) rfl rfl (Nat.le_of_ble_eq_true rfl) d_Ev_ofBoth_14 (fun r9 M9 hp9 => ?_)
  obtain ⟨rfl, rfl⟩ := hp9
  refine v_r1 ?_
  refine b_if_ne h0 d_Ev_ofBoth_17 rfl (fun h17 => ?_) (fun h17 => ?_)
  · skip
    refine v_iconst h0 d_Ev_ofBoth_25 (v := nI 0) (by decide) ?_
    exact v_iret h0 hC hR d_Ev_ofBoth_26 (EvP.err k1 s1 e1 (fun q => hf_t h17 (e1.trans q)) _)
  · skip
    have z0 := hf_f h17
    have z1 : R1.1 = 0 := e1.symm.trans z0
    obtain ⟨rfl, l1⟩ := q1 z1
    have hA1 := hA.kept hc k1
    have hL1 : EvL M1 f b lc := fun j a1 c1 => by rw [l1]; exact hL j a1 c1
    have hm3 : R1.2.2 ≤ 2000 := by rw [← hR1]; exact R_le o c d _ lc hm2
    refine v_iload h0 d_Ev_ofBoth_20 0 rfl ?_
    refine v_if_ne h0 d_Ev_ofBoth_22 rfl (fun h22 => ?_) (fun h22 => ?_)
    · skip
      refine v_aload_n h0 d_Ev_ofBoth_27 1 rfl ?_
      refine v_aload_n h0 d_Ev_ofBoth_28 2 rfl ?_
      refine v_aload_n h0 d_Ev_ofBoth_29 2 rfl ?_
      refine gN_Fr_text h0 hC (by omega) wn_21 d_Ev_ofBoth_30 ?_
      refine v_top (.ref (ga g (17 + c))) (by rw [hA1.2.2.2, dcT_c g hc]) ?_
      refine v_iload_n h0 d_Ev_ofBoth_33 3 rfl ?_
      refine v_iconst h0 d_Ev_ofBoth_34 (v := nI 1) (by decide) ?_
      refine v_iadd h0 d_Ev_ofBoth_35 ?_
      refine v_int (nI (k + 1)) (nI_add k 1) ?_
      refine v_callV h0 hC (sB_N0 g) (17 + c) (show (17 + c) < 59 by omega) (eB_Te g (by omega) _) rfl (av := [.int (nI (k + 1))]) (rest := [.ref (ga g (47 + f)), .ref (ga g 4)]) (m_Te_end (kl K) g hI M1 hc hA1.2.1 ok1 eo1) wd_337 wd_380 wd_335 wd_336 wd_3 hd_Te_endOf (by omega) (by decide) rfl rfl (Nat.le_of_ble_eq_true rfl) d_Ev_ofBoth_36 (fun r9 M9 hp9 => ?_)
      obtain ⟨rfl, rfl⟩ := hp9
      refine v_r1 ?_
      refine v_iload_n h0 d_Ev_ofBoth_39 4 rfl ?_
      refine v_iconst h0 d_Ev_ofBoth_40 (v := nI 1) (by decide) ?_
      refine v_iadd h0 d_Ev_ofBoth_41 ?_
      refine v_int (nI (6 - (d + 1) + 1)) (nI_add (6 - (d + 1)) 1) ?_
      refine v_int (nI (6 - d)) (sub_lev hd) ?_
      refine v_callV h0 hC (sB_N0 g) 4 (show 4 < 59 by omega) (eB_Ev g _) rfl (av := [.ref (ga g (47 + f)), .int (nI (EN s d (k + 1))), .int (nI (6 - d))]) (rest := []) (hED M1 c n (EN s d (k + 1)) f R1.2.2 s e a _ lc tx df am tn fn hc hf hA1 hL1 ok2 eo2 ty2 s1 hm3 z0) wd_366 wd_363 wd_365 ws_20 wd_4 hd_Ev_ofExpression (by omega) (by decide) rfl rfl (Nat.le_of_ble_eq_true rfl) d_Ev_ofBoth_42 (fun r9 M2 hp9 => ?_)
      obtain ⟨v2, rfl, k2, s2, e2, q2⟩ := hp9
      refine v_r1 ?_
      exact v_iret h0 hC hR d_Ev_ofBoth_45 (by rw [bd_o z1, if_neg h22]; exact EvP.lift k1 l1 (EvP.bd' ⟨v2, rfl, k2, s2, e2, q2⟩))
    · skip
      refine v_iconst h0 d_Ev_ofBoth_25 (v := nI 0) (by decide) ?_
      exact v_iret h0 hC hR d_Ev_ofBoth_26 (by rw [bd_o z1, if_pos h22]; exact ⟨_, rfl, k1, s1, z0, fun _ => ⟨rfl, l1⟩⟩)
set_option maxHeartbeats 4000000 in
theorem m_Ev_ofPair (l : Launch) (g : Gd) (hI : sI (sB g)) (M : Me) {c n k f d o m : Nat} {s e : Nat → Int32} {a : Int32} {b : Nat → Bool} {lc : Nat → Int32} {tx : Nat → Nat → Int32} {df : Nat → Nat} {am tn : Nat → Int32} {fn : Nat → Bool} (hc : c < 10) (hf : f + o = 5) (hd : d + 1 ≤ 6) (hA : EvA M c n f s e a tx df am tn fn) (hL : EvL M f b lc) (hm : M 4 2 = nI m) (hm2 : m ≤ 2000) (he0 : M 4 4 = 0) (hED : ED l g o d) (ok1 : OK s n d b (k + 1) = true) (eo1 : EO s e d (k + 1)) (ty1 : ¬ TY s tn fn d (k + 1) = 0) (ok2 : OK s n d b (EN s d (k + 1)) = true) (eo2 : EO s e d (EN s d (k + 1))) (ty2 : ¬ TY s tn fn d (EN s d (k + 1)) = 0) {R1 : Rs} (hR1 : EV tx df am (CL tx df am o) c d (k + 1) lc m = R1) (hop : s k = 43 ∨ s k = 45 ∨ s k = 42 ∨ s k = 60 ∨ s k = 61 ∨ s k = 47) : CB l g y_Ev_ofPair c_Ev_ofPair 6 (some .int) (2 * (7 * o + d) + 5) [.ref (ga g 4), .ref (ga g (47 + f)), .int (nI k), .int (nI (6 - (d + 1)))] M (EvP f M (bd R1 fun v m1 => bd (EV tx df am (CL tx df am o) c d (EN s d (k + 1)) lc m1) fun w m2 => jn (s k) v w m2)) := by
  have hn24 : n ≤ 24 := hA.2.1.2.2.2.2.2
  have hk24 := OK_lt ok1
  have hf6 : f < 6 := by omega
  refine Ct.of hI (sB_N0 g) rfl (Nat.le_of_ble_eq_true rfl) (fun K h0 hC hR hkl hn => ?_)
  have hC : Cx (sB g) K gC_Ev _ := hC
  show V K (wp (sB g)) M 0 [(0, .ref (ga g 4)), (1, .ref (ga g (47 + f))), (2, .int (nI k)), (3, .int (nI (6 - (d + 1))))] []
  subst hkl
  refine v_aload_n h0 d_Ev_ofPair_0 0 rfl ?_
  refine v_aload_n h0 d_Ev_ofPair_1 1 rfl ?_
  refine v_iload_n h0 d_Ev_ofPair_2 2 rfl ?_
  refine v_iconst h0 d_Ev_ofPair_3 (v := nI 1) (by decide) ?_
  refine v_iadd h0 d_Ev_ofPair_4 ?_
  refine v_int (nI (k + 1)) (nI_add k 1) ?_
  refine v_iload_n h0 d_Ev_ofPair_5 3 rfl ?_
  refine v_iconst h0 d_Ev_ofPair_6 (v := nI 1) (by decide) ?_
  refine v_iadd h0 d_Ev_ofPair_7 ?_
  refine v_int (nI (6 - (d + 1) + 1)) (nI_add (6 - (d + 1)) 1) ?_
  refine v_int (nI (6 - d)) (sub_lev hd) ?_
  refine v_callV h0 hC (sB_N0 g) 4 (show 4 < 59 by omega) (eB_Ev g _) rfl (av := [.ref (ga g (47 + f)), .int (nI (k + 1)), .int (nI (6 - d))]) (rest := []) (hED M c n (k + 1) f m s e a b lc tx df am tn fn hc hf hA hL ok1 eo1 ty1 hm hm2 he0) wd_366 wd_363 wd_365 ws_20 wd_4 hd_Ev_ofExpression (by omega) (by decide) rfl rfl (Nat.le_of_ble_eq_true rfl) d_Ev_ofPair_8 (fun r9 M1 hp9 => ?_)
  obtain ⟨v1, rfl, k1, s1, e1, q1⟩ := hp9
  rw [hR1] at s1 e1 q1
  refine v_r1 ?_
  refine v_istore h0 d_Ev_ofPair_11 (lv' := [(4, .int v1), (0, .ref (ga g 4)), (1, .ref (ga g (47 + f))), (2, .int (nI k)), (3, .int (nI (6 - (d + 1))))]) (lt_kn hn (by decide)) rfl ?_
  refine v_aload_n h0 d_Ev_ofPair_13 1 rfl ?_
  refine v_callV h0 hC (sB_N0 g) 4 (show 4 < 59 by omega) (eB_Ev g _) rfl (av := []) (rest := []) (m_Ev_hasFailed (kl K) g hI M1) wd_379 wd_376 wd_378 ws_23 wd_4 hd_Ev_hasFailed (by omega) (by decide) rfl rfl (Nat.le_of_ble_eq_true rfl) d_Ev_ofPair_14 (fun r9 M9 hp9 => ?_)
  obtain ⟨rfl, rfl⟩ := hp9
  refine v_r1 ?_
  refine b_if_eq h0 d_Ev_ofPair_17 rfl (fun h17 => ?_) (fun h17 => ?_)
  · skip
    have z0 := hf_f h17
    have z1 : R1.1 = 0 := e1.symm.trans z0
    obtain ⟨rfl, l1⟩ := q1 z1
    have hA1 := hA.kept hc k1
    have hL1 : EvL M1 f b lc := fun j a1 c1 => by rw [l1]; exact hL j a1 c1
    have hm3 : R1.2.2 ≤ 2000 := by rw [← hR1]; exact R_le o c d _ lc hm2
    refine v_aload_n h0 d_Ev_ofPair_22 1 rfl ?_
    refine v_aload_n h0 d_Ev_ofPair_23 2 rfl ?_
    refine v_aload_n h0 d_Ev_ofPair_24 2 rfl ?_
    refine gN_Fr_text h0 hC (by omega) wn_21 d_Ev_ofPair_25 ?_
    refine v_top (.ref (ga g (17 + c))) (by rw [hA1.2.2.2, dcT_c g hc]) ?_
    refine v_iload_n h0 d_Ev_ofPair_28 3 rfl ?_
    refine v_iconst h0 d_Ev_ofPair_29 (v := nI 1) (by decide) ?_
    refine v_iadd h0 d_Ev_ofPair_30 ?_
    refine v_int (nI (k + 1)) (nI_add k 1) ?_
    refine v_callV h0 hC (sB_N0 g) (17 + c) (show (17 + c) < 59 by omega) (eB_Te g (by omega) _) rfl (av := [.int (nI (k + 1))]) (rest := [.ref (ga g (47 + f)), .ref (ga g 4)]) (m_Te_end (kl K) g hI M1 hc hA1.2.1 ok1 eo1) wd_337 wd_380 wd_335 wd_336 wd_3 hd_Te_endOf (by omega) (by decide) rfl rfl (Nat.le_of_ble_eq_true rfl) d_Ev_ofPair_31 (fun r9 M9 hp9 => ?_)
    obtain ⟨rfl, rfl⟩ := hp9
    refine v_r1 ?_
    refine v_iload_n h0 d_Ev_ofPair_34 4 rfl ?_
    refine v_iconst h0 d_Ev_ofPair_35 (v := nI 1) (by decide) ?_
    refine v_iadd h0 d_Ev_ofPair_36 ?_
    refine v_int (nI (6 - (d + 1) + 1)) (nI_add (6 - (d + 1)) 1) ?_
    refine v_int (nI (6 - d)) (sub_lev hd) ?_
    refine v_callV h0 hC (sB_N0 g) 4 (show 4 < 59 by omega) (eB_Ev g _) rfl (av := [.ref (ga g (47 + f)), .int (nI (EN s d (k + 1))), .int (nI (6 - d))]) (rest := []) (hED M1 c n (EN s d (k + 1)) f R1.2.2 s e a _ lc tx df am tn fn hc hf hA1 hL1 ok2 eo2 ty2 s1 hm3 z0) wd_366 wd_363 wd_365 ws_20 wd_4 hd_Ev_ofExpression (by omega) (by decide) rfl rfl (Nat.le_of_ble_eq_true rfl) d_Ev_ofPair_37 (fun r9 M2 hp9 => ?_)
    obtain ⟨v2, rfl, k2, s2, e2, q2⟩ := hp9
    refine v_r1 ?_
    refine v_istore h0 d_Ev_ofPair_40 (lv' := [(5, .int v2), (4, .int R1.2.1), (0, .ref (ga g 4)), (1, .ref (ga g (47 + f))), (2, .int (nI k)), (3, .int (nI (6 - (d + 1))))]) (lt_kn hn (by decide)) rfl ?_
    refine v_aload_n h0 d_Ev_ofPair_42 2 rfl ?_
    refine v_callV h0 hC (sB_N0 g) 4 (show 4 < 59 by omega) (eB_Ev g _) rfl (av := []) (rest := []) (m_Ev_hasFailed (kl K) g hI M2) wd_379 wd_376 wd_378 ws_23 wd_4 hd_Ev_hasFailed (by omega) (by decide) rfl rfl (Nat.le_of_ble_eq_true rfl) d_Ev_ofPair_43 (fun r9 M9 hp9 => ?_)
    obtain ⟨rfl, rfl⟩ := hp9
    refine v_r1 ?_
    refine b_if_eq h0 d_Ev_ofPair_46 rfl (fun h46 => ?_) (fun h46 => ?_)
    · skip
      have z2 := hf_f h46
      have y2 : (EV tx df am (CL tx df am o) c d (EN s d (k + 1)) lc R1.2.2).1 = 0 := e2.symm.trans z2
      obtain ⟨rfl, l2⟩ := q2 y2
      have hA2 := hA1.kept hc k2
      refine v_aload_n h0 d_Ev_ofPair_51 2 rfl ?_
      refine v_aload_n h0 d_Ev_ofPair_52 3 rfl ?_
      refine gN_Fr_text h0 hC (by omega) wn_21 d_Ev_ofPair_53 ?_
      refine v_top (.ref (ga g (17 + c))) (by rw [hA2.2.2.2, dcT_c g hc]) ?_
      refine v_iload_n h0 d_Ev_ofPair_56 4 rfl ?_
      refine v_callV h0 hC (sB_N0 g) (17 + c) (show (17 + c) < 59 by omega) (eB_Te g (by omega) _) rfl (av := [.int (nI k)]) (rest := [.ref (ga g 4)]) (m_Te_sign (kl K) g hI M2 hc (by omega) hA2.2.1) wd_197 wd_371 wd_195 wd_196 wd_3 hd_Te_signAt (by omega) (by decide) rfl rfl (Nat.le_of_ble_eq_true rfl) d_Ev_ofPair_57 (fun r9 M9 hp9 => ?_)
      obtain ⟨rfl, rfl⟩ := hp9
      refine v_r1 ?_
      refine v_int (s k) (if_pos (by omega)) ?_
      refine v_iload h0 d_Ev_ofPair_60 1 rfl ?_
      refine v_iload h0 d_Ev_ofPair_62 0 rfl ?_
      rcases hop with h | h | h | h | h | h
      · skip
        refine v_callV h0 hC (sB_N0 g) 4 (show 4 < 59 by omega) (eB_Ev g _) rfl (av := [.int (s k), .int R1.2.1, .int ((EV tx df am (CL tx df am o) c d (EN s d (k + 1)) lc R1.2.2).2.1)]) (rest := []) (m_Ev_combine_43 (kl K) g hI M2 (s k) _ _ h) wd_406 wd_403 wd_405 ws_29 wd_4 hd_Ev_combine (by omega) (by decide) rfl rfl (Nat.le_of_ble_eq_true rfl) d_Ev_ofPair_64 (fun r9 M9 hp9 => ?_)
        obtain ⟨rfl, rfl⟩ := hp9
        refine v_r1 ?_
        exact v_iret h0 hC hR d_Ev_ofPair_67 (by rw [bd_o z1, bd_o y2, jn_43 h]; exact EvP.lift k1 l1 ⟨_, rfl, k2, s2, z2, fun _ => ⟨rfl, l2⟩⟩)
      · skip
        refine v_callV h0 hC (sB_N0 g) 4 (show 4 < 59 by omega) (eB_Ev g _) rfl (av := [.int (s k), .int R1.2.1, .int ((EV tx df am (CL tx df am o) c d (EN s d (k + 1)) lc R1.2.2).2.1)]) (rest := []) (m_Ev_combine_45 (kl K) g hI M2 (s k) _ _ h) wd_406 wd_403 wd_405 ws_29 wd_4 hd_Ev_combine (by omega) (by decide) rfl rfl (Nat.le_of_ble_eq_true rfl) d_Ev_ofPair_64 (fun r9 M9 hp9 => ?_)
        obtain ⟨rfl, rfl⟩ := hp9
        refine v_r1 ?_
        exact v_iret h0 hC hR d_Ev_ofPair_67 (by rw [bd_o z1, bd_o y2, jn_45 h]; exact EvP.lift k1 l1 ⟨_, rfl, k2, s2, z2, fun _ => ⟨rfl, l2⟩⟩)
      · skip
        refine v_callV h0 hC (sB_N0 g) 4 (show 4 < 59 by omega) (eB_Ev g _) rfl (av := [.int (s k), .int R1.2.1, .int ((EV tx df am (CL tx df am o) c d (EN s d (k + 1)) lc R1.2.2).2.1)]) (rest := []) (m_Ev_combine_42 (kl K) g hI M2 (s k) _ _ h) wd_406 wd_403 wd_405 ws_29 wd_4 hd_Ev_combine (by omega) (by decide) rfl rfl (Nat.le_of_ble_eq_true rfl) d_Ev_ofPair_64 (fun r9 M9 hp9 => ?_)
        obtain ⟨rfl, rfl⟩ := hp9
        refine v_r1 ?_
        exact v_iret h0 hC hR d_Ev_ofPair_67 (by rw [bd_o z1, bd_o y2, jn_42 h]; exact EvP.lift k1 l1 ⟨_, rfl, k2, s2, z2, fun _ => ⟨rfl, l2⟩⟩)
      · skip
        refine v_callV h0 hC (sB_N0 g) 4 (show 4 < 59 by omega) (eB_Ev g _) rfl (av := [.int (s k), .int R1.2.1, .int ((EV tx df am (CL tx df am o) c d (EN s d (k + 1)) lc R1.2.2).2.1)]) (rest := []) (m_Ev_combine_60 (kl K) g hI M2 (s k) _ _ h) wd_406 wd_403 wd_405 ws_29 wd_4 hd_Ev_combine (by omega) (by decide) rfl rfl (Nat.le_of_ble_eq_true rfl) d_Ev_ofPair_64 (fun r9 M9 hp9 => ?_)
        obtain ⟨rfl, rfl⟩ := hp9
        refine v_r1 ?_
        exact v_iret h0 hC hR d_Ev_ofPair_67 (by rw [bd_o z1, bd_o y2, jn_60 h]; exact EvP.lift k1 l1 ⟨_, rfl, k2, s2, z2, fun _ => ⟨rfl, l2⟩⟩)
      · skip
        refine v_callV h0 hC (sB_N0 g) 4 (show 4 < 59 by omega) (eB_Ev g _) rfl (av := [.int (s k), .int R1.2.1, .int ((EV tx df am (CL tx df am o) c d (EN s d (k + 1)) lc R1.2.2).2.1)]) (rest := []) (m_Ev_combine_61 (kl K) g hI M2 (s k) _ _ h) wd_406 wd_403 wd_405 ws_29 wd_4 hd_Ev_combine (by omega) (by decide) rfl rfl (Nat.le_of_ble_eq_true rfl) d_Ev_ofPair_64 (fun r9 M9 hp9 => ?_)
        obtain ⟨rfl, rfl⟩ := hp9
        refine v_r1 ?_
        exact v_iret h0 hC hR d_Ev_ofPair_67 (by rw [bd_o z1, bd_o y2, jn_61 h]; exact EvP.lift k1 l1 ⟨_, rfl, k2, s2, z2, fun _ => ⟨rfl, l2⟩⟩)
      · skip
        by_cases hy : (EV tx df am (CL tx df am o) c d (EN s d (k + 1)) lc R1.2.2).2.1 = 0
        · skip
          refine v_callV h0 hC (sB_N0 g) 4 (show 4 < 59 by omega) (eB_Ev g _) rfl (av := [.int (s k), .int R1.2.1, .int ((EV tx df am (CL tx df am o) c d (EN s d (k + 1)) lc R1.2.2).2.1)]) (rest := []) (m_Ev_combine_z (kl K) g hI M2 (s k) _ _ h hy) wd_406 wd_403 wd_405 ws_29 wd_4 hd_Ev_combine (by omega) (by decide) rfl rfl (Nat.le_of_ble_eq_true rfl) d_Ev_ofPair_64 (fun r9 M9 hp9 => ?_)
          obtain ⟨rfl, rfl⟩ := hp9
          refine v_r1 ?_
          exact v_iret h0 hC hR d_Ev_ofPair_67 (by rw [bd_o z1, bd_o y2, jn_z h _ hy]; exact EvP.lift k1 l1 ⟨_, rfl, k2.trans (EvK.er hf6 _ _), by rw [up2_n _ _ (by omega)]; exact s2, up2_s _ _ _ _, fun w => absurd w (by show ¬ (7 : Int32) = 0; decide)⟩)
        · skip
          refine v_callV h0 hC (sB_N0 g) 4 (show 4 < 59 by omega) (eB_Ev g _) rfl (av := [.int (s k), .int R1.2.1, .int ((EV tx df am (CL tx df am o) c d (EN s d (k + 1)) lc R1.2.2).2.1)]) (rest := []) (m_Ev_combine_47 (kl K) g hI M2 (s k) _ _ h hy) wd_406 wd_403 wd_405 ws_29 wd_4 hd_Ev_combine (by omega) (by decide) rfl rfl (Nat.le_of_ble_eq_true rfl) d_Ev_ofPair_64 (fun r9 M9 hp9 => ?_)
          obtain ⟨rfl, rfl⟩ := hp9
          refine v_r1 ?_
          exact v_iret h0 hC hR d_Ev_ofPair_67 (by rw [bd_o z1, bd_o y2, jn_47 h _ hy]; exact EvP.lift k1 l1 ⟨_, rfl, k2, s2, z2, fun _ => ⟨rfl, l2⟩⟩)
    · skip
      refine v_iconst h0 d_Ev_ofPair_49 (v := nI 0) (by decide) ?_
      exact v_iret h0 hC hR d_Ev_ofPair_50 (by rw [bd_o z1]; exact EvP.lift k1 l1 (EvP.err k2 s2 e2 (fun q => hf_t h46 (e2.trans q)) _))
  · skip
    refine v_iconst h0 d_Ev_ofPair_20 (v := nI 0) (by decide) ?_
    exact v_iret h0 hC hR d_Ev_ofPair_21 (EvP.err k1 s1 e1 (fun q => hf_t h17 (e1.trans q)) _)
set_option maxHeartbeats 4000000 in
theorem m_Ev_ofChoice (l : Launch) (g : Gd) (hI : sI (sB g)) (M : Me) {c n k f d o m : Nat} {s e : Nat → Int32} {a : Int32} {b : Nat → Bool} {lc : Nat → Int32} {tx : Nat → Nat → Int32} {df : Nat → Nat} {am tn : Nat → Int32} {fn : Nat → Bool} (hc : c < 10) (hf : f + o = 5) (hd : d + 1 ≤ 6) (hA : EvA M c n f s e a tx df am tn fn) (hL : EvL M f b lc) (hm : M 4 2 = nI m) (hm2 : m ≤ 2000) (he0 : M 4 4 = 0) (hED : ED l g o d) (ok1 : OK s n d b (k + 1) = true) (eo1 : EO s e d (k + 1)) (ty1 : ¬ TY s tn fn d (k + 1) = 0) (ok2 : OK s n d b (EN s d (k + 1)) = true) (eo2 : EO s e d (EN s d (k + 1))) (ty2 : ¬ TY s tn fn d (EN s d (k + 1)) = 0) {R1 : Rs} (hR1 : EV tx df am (CL tx df am o) c d (k + 1) lc m = R1) (ok3 : OK s n d b (EN s d (EN s d (k + 1))) = true) (eo3 : EO s e d (EN s d (EN s d (k + 1)))) (ty3 : ¬ TY s tn fn d (EN s d (EN s d (k + 1))) = 0) (hz : R1.1 = 0 → R1.2.1 = 0 ∨ R1.2.1 = 1) : CB l g y_Ev_ofChoice c_Ev_ofChoice 6 (some .int) (2 * (7 * o + d) + 5) [.ref (ga g 4), .ref (ga g (47 + f)), .int (nI k), .int (nI (6 - (d + 1)))] M (EvP f M (bd R1 fun v m1 => bd (EV tx df am (CL tx df am o) c d (if v = 0 then EN s d (EN s d (k + 1)) else EN s d (k + 1)) lc m1) fun w m2 => (0, w, m2))) := by
  have hn24 : n ≤ 24 := hA.2.1.2.2.2.2.2
  have hk24 := OK_lt ok1
  have hf6 : f < 6 := by omega
  refine Ct.of hI (sB_N0 g) rfl (Nat.le_of_ble_eq_true rfl) (fun K h0 hC hR hkl hn => ?_)
  have hC : Cx (sB g) K gC_Ev _ := hC
  show V K (wp (sB g)) M 0 [(0, .ref (ga g 4)), (1, .ref (ga g (47 + f))), (2, .int (nI k)), (3, .int (nI (6 - (d + 1))))] []
  subst hkl
  refine v_aload_n h0 d_Ev_ofChoice_0 0 rfl ?_
  refine v_aload_n h0 d_Ev_ofChoice_1 1 rfl ?_
  refine v_iload_n h0 d_Ev_ofChoice_2 2 rfl ?_
  refine v_iconst h0 d_Ev_ofChoice_3 (v := nI 1) (by decide) ?_
  refine v_iadd h0 d_Ev_ofChoice_4 ?_
  refine v_int (nI (k + 1)) (nI_add k 1) ?_
  refine v_iload_n h0 d_Ev_ofChoice_5 3 rfl ?_
  refine v_iconst h0 d_Ev_ofChoice_6 (v := nI 1) (by decide) ?_
  refine v_iadd h0 d_Ev_ofChoice_7 ?_
  refine v_int (nI (6 - (d + 1) + 1)) (nI_add (6 - (d + 1)) 1) ?_
  refine v_int (nI (6 - d)) (sub_lev hd) ?_
  refine v_callV h0 hC (sB_N0 g) 4 (show 4 < 59 by omega) (eB_Ev g _) rfl (av := [.ref (ga g (47 + f)), .int (nI (k + 1)), .int (nI (6 - d))]) (rest := []) (hED M c n (k + 1) f m s e a b lc tx df am tn fn hc hf hA hL ok1 eo1 ty1 hm hm2 he0) wd_366 wd_363 wd_365 ws_20 wd_4 hd_Ev_ofExpression (by omega) (by decide) rfl rfl (Nat.le_of_ble_eq_true rfl) d_Ev_ofChoice_8 (fun r9 M1 hp9 => ?_)
  obtain ⟨v1, rfl, k1, s1, e1, q1⟩ := hp9
  rw [hR1] at s1 e1 q1
  refine v_r1 ?_
  refine v_istore h0 d_Ev_ofChoice_11 (lv' := [(4, .int v1), (0, .ref (ga g 4)), (1, .ref (ga g (47 + f))), (2, .int (nI k)), (3, .int (nI (6 - (d + 1))))]) (lt_kn hn (by decide)) rfl ?_
  refine v_aload_n h0 d_Ev_ofChoice_13 1 rfl ?_
  refine v_callV h0 hC (sB_N0 g) 4 (show 4 < 59 by omega) (eB_Ev g _) rfl (av := []) (rest := []) (m_Ev_hasFailed (kl K) g hI M1) wd_379 wd_376 wd_378 ws_23 wd_4 hd_Ev_hasFailed (by omega) (by decide) rfl rfl (Nat.le_of_ble_eq_true rfl) d_Ev_ofChoice_14 (fun r9 M9 hp9 => ?_)
  obtain ⟨rfl, rfl⟩ := hp9
  refine v_r1 ?_
  refine b_if_eq h0 d_Ev_ofChoice_17 rfl (fun h17 => ?_) (fun h17 => ?_)
  · skip
    have z0 := hf_f h17
    have z1 : R1.1 = 0 := e1.symm.trans z0
    obtain ⟨rfl, l1⟩ := q1 z1
    have hA1 := hA.kept hc k1
    have hL1 : EvL M1 f b lc := fun j a1 c1 => by rw [l1]; exact hL j a1 c1
    have hm3 : R1.2.2 ≤ 2000 := by rw [← hR1]; exact R_le o c d _ lc hm2
    refine v_aload_n h0 d_Ev_ofChoice_22 2 rfl ?_
    refine gN_Fr_text h0 hC (by omega) wn_21 d_Ev_ofChoice_23 ?_
    refine v_top (.ref (ga g (17 + c))) (by rw [hA1.2.2.2, dcT_c g hc]) ?_
    refine v_iload_n h0 d_Ev_ofChoice_26 3 rfl ?_
    refine v_iconst h0 d_Ev_ofChoice_27 (v := nI 1) (by decide) ?_
    refine v_iadd h0 d_Ev_ofChoice_28 ?_
    refine v_int (nI (k + 1)) (nI_add k 1) ?_
    refine v_callV h0 hC (sB_N0 g) (17 + c) (show (17 + c) < 59 by omega) (eB_Te g (by omega) _) rfl (av := [.int (nI (k + 1))]) (rest := []) (m_Te_end (kl K) g hI M1 hc hA1.2.1 ok1 eo1) wd_337 wd_380 wd_335 wd_336 wd_3 hd_Te_endOf (by omega) (by decide) rfl rfl (Nat.le_of_ble_eq_true rfl) d_Ev_ofChoice_29 (fun r9 M9 hp9 => ?_)
    obtain ⟨rfl, rfl⟩ := hp9
    refine v_r1 ?_
    refine v_istore h0 d_Ev_ofChoice_32 (lv' := [(5, .int (nI (EN s d (k + 1)))), (4, .int R1.2.1), (0, .ref (ga g 4)), (1, .ref (ga g (47 + f))), (2, .int (nI k)), (3, .int (nI (6 - (d + 1))))]) (lt_kn hn (by decide)) rfl ?_
    refine v_aload_n h0 d_Ev_ofChoice_34 2 rfl ?_
    refine v_aload_n h0 d_Ev_ofChoice_35 3 rfl ?_
    refine v_iload h0 d_Ev_ofChoice_36 1 rfl ?_
    refine v_iconst h0 d_Ev_ofChoice_38 (v := 1) (by decide) ?_
    refine v_icmp_ne h0 d_Ev_ofChoice_39 rfl (fun h39 => ?_) (fun h39 => ?_)
    · skip
      have v0 : R1.2.1 = 0 := (hz z1).resolve_right h39
      refine v_aload_n h0 d_Ev_ofChoice_47 3 rfl ?_
      refine gN_Fr_text h0 hC (by omega) wn_21 d_Ev_ofChoice_48 ?_
      refine v_top (.ref (ga g (17 + c))) (by rw [hA1.2.2.2, dcT_c g hc]) ?_
      refine v_iload h0 d_Ev_ofChoice_51 0 rfl ?_
      refine v_callV h0 hC (sB_N0 g) (17 + c) (show (17 + c) < 59 by omega) (eB_Te g (by omega) _) rfl (av := [.int (nI (EN s d (k + 1)))]) (rest := [.ref (ga g (47 + f)), .ref (ga g 4)]) (m_Te_end (kl K) g hI M1 hc hA1.2.1 ok2 eo2) wd_337 wd_380 wd_335 wd_336 wd_3 hd_Te_endOf (by omega) (by decide) rfl rfl (Nat.le_of_ble_eq_true rfl) d_Ev_ofChoice_53 (fun r9 M9 hp9 => ?_)
      obtain ⟨rfl, rfl⟩ := hp9
      refine v_r1 ?_
      refine v_iload_n h0 d_Ev_ofChoice_56 5 rfl ?_
      refine v_iconst h0 d_Ev_ofChoice_57 (v := nI 1) (by decide) ?_
      refine v_iadd h0 d_Ev_ofChoice_58 ?_
      refine v_int (nI (6 - (d + 1) + 1)) (nI_add (6 - (d + 1)) 1) ?_
      refine v_int (nI (6 - d)) (sub_lev hd) ?_
      refine v_callV h0 hC (sB_N0 g) 4 (show 4 < 59 by omega) (eB_Ev g _) rfl (av := [.ref (ga g (47 + f)), .int (nI (EN s d (EN s d (k + 1)))), .int (nI (6 - d))]) (rest := []) (hED M1 c n (EN s d (EN s d (k + 1))) f R1.2.2 s e a _ lc tx df am tn fn hc hf hA1 hL1 ok3 eo3 ty3 s1 hm3 z0) wd_366 wd_363 wd_365 ws_20 wd_4 hd_Ev_ofExpression (by omega) (by decide) rfl rfl (Nat.le_of_ble_eq_true rfl) d_Ev_ofChoice_59 (fun r9 M2 hp9 => ?_)
      obtain ⟨v2, rfl, k2, s2, e2, q2⟩ := hp9
      refine v_r1 ?_
      exact v_iret h0 hC hR d_Ev_ofChoice_62 (by rw [bd_o z1, if_pos v0]; exact EvP.lift k1 l1 (EvP.bd' ⟨v2, rfl, k2, s2, e2, q2⟩))
    · skip
      have v0 : ¬ R1.2.1 = 0 := by rw [h39]; decide
      refine v_iload h0 d_Ev_ofChoice_42 0 rfl ?_
      refine v_goto h0 d_Ev_ofChoice_44 rfl ?_
      refine v_iload_n h0 d_Ev_ofChoice_56 5 rfl ?_
      refine v_iconst h0 d_Ev_ofChoice_57 (v := nI 1) (by decide) ?_
      refine v_iadd h0 d_Ev_ofChoice_58 ?_
      refine v_int (nI (6 - (d + 1) + 1)) (nI_add (6 - (d + 1)) 1) ?_
      refine v_int (nI (6 - d)) (sub_lev hd) ?_
      refine v_callV h0 hC (sB_N0 g) 4 (show 4 < 59 by omega) (eB_Ev g _) rfl (av := [.ref (ga g (47 + f)), .int (nI (EN s d (k + 1))), .int (nI (6 - d))]) (rest := []) (hED M1 c n (EN s d (k + 1)) f R1.2.2 s e a _ lc tx df am tn fn hc hf hA1 hL1 ok2 eo2 ty2 s1 hm3 z0) wd_366 wd_363 wd_365 ws_20 wd_4 hd_Ev_ofExpression (by omega) (by decide) rfl rfl (Nat.le_of_ble_eq_true rfl) d_Ev_ofChoice_59 (fun r9 M2 hp9 => ?_)
      obtain ⟨v2, rfl, k2, s2, e2, q2⟩ := hp9
      refine v_r1 ?_
      exact v_iret h0 hC hR d_Ev_ofChoice_62 (by rw [bd_o z1, if_neg v0]; exact EvP.lift k1 l1 (EvP.bd' ⟨v2, rfl, k2, s2, e2, q2⟩))
  · skip
    refine v_iconst h0 d_Ev_ofChoice_20 (v := nI 0) (by decide) ?_
    exact v_iret h0 hC hR d_Ev_ofChoice_21 (EvP.err k1 s1 e1 (fun q => hf_t h17 (e1.trans q)) _)
